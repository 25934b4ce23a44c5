/-! the reference: a game, years, one, two -/
def gn (own others nerve loss : Nat) : Int32 := if own = 1 then (if others = 1 then nI 2 else -(nI nerve)) else (if others = 1 then nI 5 else -(nI loss))
def grs (n1 n2 loss k : Nat) : Bool := !(decide (gn (k / 2) (k % 2) n1 loss < gn (1 - k / 2) (k % 2) n1 loss)) && decide (gn (1 - k % 2) (k / 2) n2 loss ≤ gn (k % 2) (k / 2) n2 loss)
def gma (n1 n2 loss : Nat) : Nat := mr_it (fun k c => c + (grs n1 n2 loss k).toNat) 4 0
def gfi (n1 n2 loss : Nat) : Option Nat := mr_it (fun k (o : Option Nat) => if grs n1 n2 loss k = true ∧ o = none then some (10 * (k / 2) + k % 2) else o) 4 none
theorem dr_ex (sd : Int32) : ∃ y : Int32, y = sd * nI 1103515245 + nI 12345 := ⟨_, rfl⟩
noncomputable def dr (sd : Int32) : Int32 := Classical.choose (dr_ex sd)
theorem dr_eq (sd : Int32) : dr sd = sd * nI 1103515245 + nI 12345 := Classical.choose_spec (dr_ex sd)
def dq (sd : Int32) : Nat := sd.toUInt32.toNat / 65536 % 32768
theorem dq_lt (sd : Int32) : dq sd < 32768 := Nat.mod_lt _ (by decide)
theorem dq_bit (sd : Int32) {i : Nat} (hi : i < 15) : (BitVec.ofNat 32 (dq sd)).getLsbD i = sd.toBitVec.getLsbD (16 + i) := by
  rw [BitVec.getLsbD_ofNat, decide_eq_true (show i < 32 by omega), Bool.true_and]
  unfold dq
  show ((sd.toBitVec.toNat / 2 ^ 16) % 2 ^ 15).testBit i = _
  rw [Nat.testBit_mod_two_pow, Nat.testBit_div_two_pow, decide_eq_true hi, Bool.true_and, Nat.add_comm i 16]
  rfl
theorem dq_big (sd : Int32) {i : Nat} (hi : ¬ i < 15) : (BitVec.ofNat 32 (dq sd)).getLsbD i = false := by
  rw [BitVec.getLsbD_ofNat]
  have : (dq sd).testBit i = false := Nat.testBit_lt_two_pow (Nat.lt_of_lt_of_le (dq_lt sd) (Nat.pow_le_pow_right (n := 2) (by decide) (show 15 ≤ i by omega)))
  rw [this, Bool.and_false]
theorem b32767 {i : Nat} : (BitVec.ofNat 32 32767).getLsbD i = decide (i < 15) := by
  rw [BitVec.getLsbD_ofNat]
  by_cases hi : i < 32
  · have : ∀ i, i < 32 → (decide (i < 32) && (32767 : Nat).testBit i) = decide (i < 15) := by decide +kernel
    exact this i hi
  · rw [decide_eq_false hi, decide_eq_false (by omega)]; rfl
theorem dq_r (sd : Int32) : (sd >>> (nI 16 &&& 31)) &&& nI 32767 = nI (dq sd) := by
  apply Int32.toBitVec_inj.1
  rw [Int32.toBitVec_and, Int32.toBitVec_shiftRight]
  show (sd.toBitVec.sshiftRight ((nI 16 &&& 31).toBitVec.smod 32).toNat) &&& BitVec.ofNat 32 32767 = BitVec.ofNat 32 (dq sd)
  rw [mn_sl 16 (by decide)]
  apply BitVec.eq_of_getLsbD_eq
  intro i hi
  rw [BitVec.getLsbD_and, b32767]
  by_cases h15 : i < 15
  · rw [decide_eq_true h15, Bool.and_true, dq_bit sd h15, BitVec.getLsbD_sshiftRight]
    have : 16 + i < 32 := by omega
    simp [this, show ¬ 32 ≤ i by omega]
  · rw [decide_eq_false h15, Bool.and_false, dq_big sd h15]
theorem dq_u (sd : Int32) : (sd.toUInt32 >>> ((nI 16).toUInt32 &&& Int32.toUInt32 31)).toInt32 &&& nI 32767 = nI (dq sd) := by
  apply Int32.toBitVec_inj.1
  rw [Int32.toBitVec_and]
  show ((sd.toUInt32 >>> ((nI 16).toUInt32 &&& Int32.toUInt32 31)).toBitVec) &&& BitVec.ofNat 32 32767 = BitVec.ofNat 32 (dq sd)
  rw [UInt32.toBitVec_shiftRight]
  have e16 : (((nI 16).toUInt32 &&& Int32.toUInt32 31).toBitVec % 32) = (16#32) := by decide
  rw [e16]
  apply BitVec.eq_of_getLsbD_eq
  intro i hi
  rw [BitVec.getLsbD_and, b32767]
  by_cases h15 : i < 15
  · rw [decide_eq_true h15, Bool.and_true, dq_bit sd h15, BitVec.ushiftRight_eq', BitVec.getLsbD_ushiftRight]
    rfl
  · rw [decide_eq_false h15, Bool.and_false, dq_big sd h15]
/-- what befalls, ahead of a week: the row, the seed -/
noncomputable def yst (f : Nat → Nat) (sd : Int32) : (Nat → Nat) × Int32 :=
  if 2 < dq (dr sd) % 8 ∨ f 55 = 0 then (f, dr sd)
  else if dq (dr sd) % 8 = 0 then (if (f 52).testBit (dq (dr (dr sd)) % f 55) then fbur f (dq (dr (dr sd)) % f 55) else f, dr (dr sd))
  else if dq (dr sd) % 8 = 2 then (if fcm f (dq (dr (dr sd)) % f 55) (dq (dr (dr (dr sd))) % f 55) then fe (fj f (dq (dr (dr sd)) % f 55) (dq (dr (dr (dr sd))) % f 55)) (fp (dq (dr (dr sd)) % f 55) (dq (dr (dr (dr sd))) % f 55)) else f, dr (dr (dr sd)))
  else (if fcq f (dq (dr (dr sd)) % f 55) (dq (dr (dr (dr sd))) % f 55) then fb f (fp (dq (dr (dr sd)) % f 55) (dq (dr (dr (dr sd))) % f 55)) (dq (dr (dr (dr (dr sd)))) % 30 + 1) (dq (dr (dr (dr (dr (dr sd))))) % 10) else f, dr (dr (dr (dr (dr sd)))))
noncomputable def ywk (Q : rQ) (x : (Nat → Nat) × Int32) : (Nat → Nat) × Int32 := (fwk Q (yst x.1 x.2).1, (yst x.1 x.2).2)
noncomputable def yrs (Q : rQ) (f : Nat → Nat) (sd : Int32) (n : Nat) : (Nat → Nat) × Int32 := mr_it (fun _ x => ywk Q x) n (f, sd)
theorem wf_mar {f : Nat → Nat} {L : Nat} (hw : wf f L) {p q : Nat} (hp : p < 8) (hq : q < 8) (h : fcm f p q = true) : wf (fe (fj f p q) (fp p q)) L ∧ ¬ p = q := by
  unfold fcm at h
  rw [Bool.and_eq_true, Bool.and_eq_true, decide_eq_true_eq] at h
  exact ⟨wf_fe (wf_fj hw hp hq h.1 h.2.1 h.2.2) (fp_lt hp hq h.1), h.1⟩
theorem wf_pik {f : Nat → Nat} (hw : wf f (f 52)) {p q a b : Nat} (hp : p < 8) (hq : q < 8) (h : fcq f p q = true) (h1 : 1 ≤ a) (h2 : a ≤ 99) (h3 : b ≤ 9) : wf (fb f (fp p q) a b) (f 52) ∧ ¬ p = q := by
  unfold fcq at h
  simp only [Bool.and_eq_true, decide_eq_true_eq] at h
  obtain ⟨k1, k2, k3, -⟩ := h
  have := fp_L hp hq k1 k2 k3
  exact ⟨wf_fb hw (fp_lt hp hq k1) h1 h2 h3 this.1 this.2, k1⟩
theorem mar_o {f : Nat → Nat} {p q j : Nat} (hp : p < 8) (hq : q < 8) (hn : ¬ p = q) (hj : j < 16 ∨ (52 ≤ j ∧ j < 56)) : fe (fj f p q) (fp p q) j = f j := by
  have hl := fp_lt hp hq hn
  rw [fe_j hl (by omega), if_neg (by omega)]
  unfold fj
  rw [mu_ne (by omega), mu_ne (by omega)]
theorem mar_64 {f : Nat → Nat} {p q : Nat} (hp : p < 8) (hq : q < 8) (hn : ¬ p = q) : fe (fj f p q) (fp p q) 64 = f 64 := by
  rw [fe_64 (fp_lt hp hq hn)]
  unfold fj
  rw [mu_ne (by omega), mu_ne (by omega)]
theorem pik_o {f : Nat → Nat} {p q a b j : Nat} (hp : p < 8) (hq : q < 8) (hn : ¬ p = q) (hj : j < 24 ∨ (52 ≤ j ∧ j < 56)) : fb f (fp p q) a b j = f j := by
  have hl := fp_lt hp hq hn
  rw [fb_j hl (by omega), if_neg (by omega)]
theorem yst_inv {f : Nat → Nat} {sd : Int32} (hw : wf f (f 52)) : wf (yst f sd).1 ((yst f sd).1 52) ∧ (yst f sd).1 54 = f 54 ∧ sst f (yst f sd).1 := by
  have hn := wf_n hw
  have s0 : sst f f := ⟨fun _ _ => rfl, rfl, rfl, rfl⟩
  unfold yst
  split
  · exact ⟨hw, rfl, s0⟩
  · next h0 =>
    have hpos : 0 < f 55 := by omega
    have ha : dq (dr (dr sd)) % f 55 < 8 := Nat.lt_of_lt_of_le (Nat.mod_lt _ hpos) hn
    have hb : dq (dr (dr (dr sd))) % f 55 < 8 := Nat.lt_of_lt_of_le (Nat.mod_lt _ hpos) hn
    generalize dq (dr (dr sd)) % f 55 = a at *
    generalize dq (dr (dr (dr sd))) % f 55 = b at *
    split
    · dsimp only
      split
      · obtain ⟨k1, -, k3⟩ := wf_bur hw ha
        exact ⟨k1, k3 54 (by omega), sst_bur hw ha⟩
      · exact ⟨hw, rfl, s0⟩
    · split
      · dsimp only
        split
        · next hc =>
          obtain ⟨k1, k2⟩ := wf_mar hw ha hb hc
          have o := fun j hj => mar_o (f := f) (j := j) ha hb k2 hj
          refine ⟨?_, o 54 (by omega), ⟨fun j hj => (o j (by omega)).symm, (o 53 (by omega)).symm, (o 55 (by omega)).symm, (mar_64 ha hb k2).symm⟩⟩
          rw [o 52 (by omega)]; exact k1
        · exact ⟨hw, rfl, s0⟩
      · dsimp only
        split
        · next hc =>
          obtain ⟨k1, k2⟩ := wf_pik (a := dq (dr (dr (dr (dr sd)))) % 30 + 1) (b := dq (dr (dr (dr (dr (dr sd))))) % 10) hw ha hb hc (by omega) (by omega) (by omega)
          have o := fun j hj => pik_o (f := f) (a := dq (dr (dr (dr (dr sd)))) % 30 + 1) (b := dq (dr (dr (dr (dr (dr sd))))) % 10) (j := j) ha hb k2 hj
          refine ⟨?_, o 54 (by omega), ⟨fun j hj => (o j (by omega)).symm, (o 53 (by omega)).symm, (o 55 (by omega)).symm, (fb_64 (fp_lt ha hb k2)).symm⟩⟩
          rw [o 52 (by omega)]; exact k1
        · exact ⟨hw, rfl, s0⟩
theorem yrs_inv {Q : rQ} {f : Nat → Nat} {sd : Int32} (hw : wf f (f 52)) : ∀ n, f 54 + n < 2147483647 → wf (yrs Q f sd n).1 ((yrs Q f sd n).1 52) ∧ (yrs Q f sd n).1 54 = f 54 + n ∧ sst f (yrs Q f sd n).1
  | 0, _ => ⟨hw, rfl, fun _ _ => rfl, rfl, rfl, rfl⟩
  | n + 1, h => by
    obtain ⟨h1, h2, h3⟩ := yrs_inv hw n (by omega)
    obtain ⟨k1, k2, k3⟩ := yst_inv (sd := (yrs Q f sd n).2) h1
    have e : yrs Q f sd (n + 1) = ywk Q (yrs Q f sd n) := rfl
    rw [e]
    unfold ywk
    dsimp only
    refine ⟨?_, ?_, sst_trans h3 (sst_trans k3 (sst_wks (k := 1)))⟩
    · rw [fwk_o (by omega)]
      exact wf_wk k1 (by omega)
    · rw [fwk_54]; omega
section
variable {X : mj_X} {d : Nat} {s : mw_S} {f : Nat → Nat} {Q : rQ} {L : Nat}
theorem c302 (hw : wf f L) {p x y h : Nat} (hp : p < 8) (hx : x < 2) (hy : y < 2) (hh : h < 128) : mj_call X d 302 [.ref 42, .int (nI p), .int (nI x), .int (nI y), .int (nI h)] (mw_U (mp s f)) = some (.inl (some (.int (gn x y (f p) (h / 9)))), mw_U (mp s f)) := by
  unfold gn
  have hx2 : x = 0 ∨ x = 1 := by omega
  have hy2 : y = 0 ∨ y = 1 := by omega
  rcases hx2 with rfl | rfl <;> rcases hy2 with rfl | rfl
  · simp (disch := first | assumption | exact hf _ | omega) only [b302, b302_0, b302_5, b302_10, b302_14, b302_21, b302_22, b302_27, b302_31, b302_37, nI_add, mn_mul, mn_sub, mn_m1, mn_m8, mn_eq, mn_lt, mn_le, mn_eq0, mn_0eq, mn_lt0, mn_0lt, mn_le0, mn_0le, mn_eqm, mn_meq, mn_ltm, mn_mlt, mn_lem, mn_mle, mn_mm1, mn_mm2, mn_mm3, mn_mm4, mn_mm5, mn_mm6, mn_and, mn_or, mn_an, mn_shl, mn_shr, mn_div, mn_rem, mn_clamp, mn_in, mn_inm, mn_nz, mn_zo, mn_min, mn_max, mn_abs, mn_rfit, mn_cp, mn_les, mn_gre, mn_a127, mn_a15, mn_a1, mn_a255, mn_tn0, mn_tn0e, mn_tnr, mn_tnz, mr_get, mr_ne, mr_put, mu_ne, mu_eq, mj_bk_i, mj_bk_v, mj_bk_x, decide_eq_true_eq, decide_true, decide_false, Bool.false_eq_true, Bool.true_eq_false, reduceCtorEq, mt_le_t, mt_le_f, mt_lt_t, mt_lt_f, mt_eq_t, mt_eq_f, mt_ee, not_true_eq_false, not_false_eq_true, and_true, true_and, and_self, Nat.zero_add, Nat.add_zero, Nat.one_mul, Nat.mul_one, Nat.reduceAdd, Nat.reduceMul, Nat.reduceSub, Nat.reducePow, Nat.reduceDiv, Nat.reduceMod, ↓reduceIte, mp_h, mp_w, mp_c, mp_s, mp_d, mp_n, mp_54, mp_52, mp_55, mp_l, mp_o, mp_42, mp_45, gh_gp, gw_gp, gc_gp, mw_pne, Nat.or_zero]
  · simp (disch := first | assumption | exact hf _ | omega) only [b302, b302_0, b302_5, b302_10, b302_14, b302_21, b302_22, b302_27, b302_31, b302_37, nI_add, mn_mul, mn_sub, mn_m1, mn_m8, mn_eq, mn_lt, mn_le, mn_eq0, mn_0eq, mn_lt0, mn_0lt, mn_le0, mn_0le, mn_eqm, mn_meq, mn_ltm, mn_mlt, mn_lem, mn_mle, mn_mm1, mn_mm2, mn_mm3, mn_mm4, mn_mm5, mn_mm6, mn_and, mn_or, mn_an, mn_shl, mn_shr, mn_div, mn_rem, mn_clamp, mn_in, mn_inm, mn_nz, mn_zo, mn_min, mn_max, mn_abs, mn_rfit, mn_cp, mn_les, mn_gre, mn_a127, mn_a15, mn_a1, mn_a255, mn_tn0, mn_tn0e, mn_tnr, mn_tnz, mr_get, mr_ne, mr_put, mu_ne, mu_eq, mj_bk_i, mj_bk_v, mj_bk_x, decide_eq_true_eq, decide_true, decide_false, Bool.false_eq_true, Bool.true_eq_false, reduceCtorEq, mt_le_t, mt_le_f, mt_lt_t, mt_lt_f, mt_eq_t, mt_eq_f, mt_ee, not_true_eq_false, not_false_eq_true, and_true, true_and, and_self, Nat.zero_add, Nat.add_zero, Nat.one_mul, Nat.mul_one, Nat.reduceAdd, Nat.reduceMul, Nat.reduceSub, Nat.reducePow, Nat.reduceDiv, Nat.reduceMod, ↓reduceIte, mp_h, mp_w, mp_c, mp_s, mp_d, mp_n, mp_54, mp_52, mp_55, mp_l, mp_o, mp_42, mp_45, gh_gp, gw_gp, gc_gp, mw_pne, Nat.or_zero]
  · simp (disch := first | assumption | exact hf _ | omega) only [b302, b302_0, b302_5, b302_10, b302_14, b302_21, b302_22, b302_27, b302_31, b302_37, nI_add, mn_mul, mn_sub, mn_m1, mn_m8, mn_eq, mn_lt, mn_le, mn_eq0, mn_0eq, mn_lt0, mn_0lt, mn_le0, mn_0le, mn_eqm, mn_meq, mn_ltm, mn_mlt, mn_lem, mn_mle, mn_mm1, mn_mm2, mn_mm3, mn_mm4, mn_mm5, mn_mm6, mn_and, mn_or, mn_an, mn_shl, mn_shr, mn_div, mn_rem, mn_clamp, mn_in, mn_inm, mn_nz, mn_zo, mn_min, mn_max, mn_abs, mn_rfit, mn_cp, mn_les, mn_gre, mn_a127, mn_a15, mn_a1, mn_a255, mn_tn0, mn_tn0e, mn_tnr, mn_tnz, mr_get, mr_ne, mr_put, mu_ne, mu_eq, mj_bk_i, mj_bk_v, mj_bk_x, decide_eq_true_eq, decide_true, decide_false, Bool.false_eq_true, Bool.true_eq_false, reduceCtorEq, mt_le_t, mt_le_f, mt_lt_t, mt_lt_f, mt_eq_t, mt_eq_f, mt_ee, not_true_eq_false, not_false_eq_true, and_true, true_and, and_self, Nat.zero_add, Nat.add_zero, Nat.one_mul, Nat.mul_one, Nat.reduceAdd, Nat.reduceMul, Nat.reduceSub, Nat.reducePow, Nat.reduceDiv, Nat.reduceMod, ↓reduceIte, mp_h, mp_w, mp_c, mp_s, mp_d, mp_n, mp_54, mp_52, mp_55, mp_l, mp_o, mp_42, mp_45, gh_gp, gw_gp, gc_gp, mw_pne, Nat.or_zero]
  · simp (disch := first | assumption | exact hf _ | omega) only [b302, b302_0, b302_5, b302_10, b302_14, b302_21, b302_22, b302_27, b302_31, b302_37, nI_add, mn_mul, mn_sub, mn_m1, mn_m8, mn_eq, mn_lt, mn_le, mn_eq0, mn_0eq, mn_lt0, mn_0lt, mn_le0, mn_0le, mn_eqm, mn_meq, mn_ltm, mn_mlt, mn_lem, mn_mle, mn_mm1, mn_mm2, mn_mm3, mn_mm4, mn_mm5, mn_mm6, mn_and, mn_or, mn_an, mn_shl, mn_shr, mn_div, mn_rem, mn_clamp, mn_in, mn_inm, mn_nz, mn_zo, mn_min, mn_max, mn_abs, mn_rfit, mn_cp, mn_les, mn_gre, mn_a127, mn_a15, mn_a1, mn_a255, mn_tn0, mn_tn0e, mn_tnr, mn_tnz, mr_get, mr_ne, mr_put, mu_ne, mu_eq, mj_bk_i, mj_bk_v, mj_bk_x, decide_eq_true_eq, decide_true, decide_false, Bool.false_eq_true, Bool.true_eq_false, reduceCtorEq, mt_le_t, mt_le_f, mt_lt_t, mt_lt_f, mt_eq_t, mt_eq_f, mt_ee, not_true_eq_false, not_false_eq_true, and_true, true_and, and_self, Nat.zero_add, Nat.add_zero, Nat.one_mul, Nat.mul_one, Nat.reduceAdd, Nat.reduceMul, Nat.reduceSub, Nat.reducePow, Nat.reduceDiv, Nat.reduceMod, ↓reduceIte, mp_h, mp_w, mp_c, mp_s, mp_d, mp_n, mp_54, mp_52, mp_55, mp_l, mp_o, mp_42, mp_45, gh_gp, gw_gp, gc_gp, mw_pne, Nat.or_zero]
theorem m300 (hw : wf f (f 52)) (hq : rM s Q) (ho : rOK Q) (h54 : f 54 ≤ 999) {p q : Nat} {b : Bool} (hp : p < f 55) (hq8 : q < f 55) (hn : ¬ p = q) : ∃ t, mj_call X (d + 8) 300 [.ref 42, .int (nI p), .int (nI q), .int (nI b.toNat)] (mw_U (mp s f)) = some (.inl (some (.int (if 0 < fhp f p q then (if b then mo (gfi (f p) (f q) (fhp (fwks Q f 5) p q / 9)) else nI (gma (f p) (f q) (fhp (fwks Q f 5) p q / 9))) else -1))), mw_U (mp t f)) ∧ t.1 42 2 = nI 0 ∧ mh s t := by
  have hn8 := wf_n hw
  have i1 := ip_t hp hn8
  have i2 := ip_t hq8 hn8
  have hp' : p < 8 := by omega
  have hq' : q < 8 := by omega
  have hg := gp_lt hp' hq'
  have hb1 : (nI b.toNat < 0) = False := by cases b <;> decide
  have hb2 : (nI b.toNat ≤ nI 1) = True := by cases b <;> decide
  by_cases h : 0 < fhp f p q
  · obtain ⟨t1, e1, h1, g1, u1⟩ := pk66 (X := X) (d := d + 6) (s := mw_p s 42 2 (nI 0)) (f := f) (K := 66) (Or.inl rfl) hw
    have hq1 : rM t1 Q := rM_mh (rM_mh hq (mh_p2 (Or.inl rfl))) h1
    obtain ⟨t2, e2, g2⟩ := c252 (X := X) (d := d) (s := t1) hw hq1 ho (n := 5) (by omega)
    have e3 := u1 t2 (fwks Q f 5) g2 sst_wks
    have hl := fhp_lt (fwks Q f 5) p q
    have e301 : mj_call X (d + 7) 301 [.ref 42, .int (nI (gp p q))] (mw_U (mp (mw_p s 42 2 (nI 0)) f)) = some (.inl (some (.int (nI (fhp (fwks Q f 5) p q)))), mw_U (mp t2 f)) := by
      simp (disch := first | assumption | exact hf _ | omega) only [b301, b301_0, b301_9, b301_14, b301_30, nI_add, mn_mul, mn_sub, mn_m1, mn_m8, mn_eq, mn_lt, mn_le, mn_eq0, mn_0eq, mn_lt0, mn_0lt, mn_le0, mn_0le, mn_eqm, mn_meq, mn_ltm, mn_mlt, mn_lem, mn_mle, mn_mm1, mn_mm2, mn_mm3, mn_mm4, mn_mm5, mn_mm6, mn_and, mn_or, mn_an, mn_shl, mn_shr, mn_div, mn_rem, mn_clamp, mn_in, mn_inm, mn_nz, mn_zo, mn_min, mn_max, mn_abs, mn_rfit, mn_cp, mn_les, mn_gre, mn_a127, mn_a15, mn_a1, mn_a255, mn_tn0, mn_tn0e, mn_tnr, mn_tnz, mr_get, mr_ne, mr_put, mu_ne, mu_eq, mj_bk_i, mj_bk_v, mj_bk_x, decide_eq_true_eq, decide_true, decide_false, Bool.false_eq_true, Bool.true_eq_false, reduceCtorEq, mt_le_t, mt_le_f, mt_lt_t, mt_lt_f, mt_eq_t, mt_eq_f, mt_ee, not_true_eq_false, not_false_eq_true, and_true, true_and, and_self, Nat.zero_add, Nat.add_zero, Nat.one_mul, Nat.mul_one, Nat.reduceAdd, Nat.reduceMul, Nat.reduceSub, Nat.reducePow, Nat.reduceDiv, Nat.reduceMod, ↓reduceIte, mp_h, mp_w, mp_c, mp_s, mp_d, mp_n, mp_54, mp_52, mp_55, mp_l, mp_o, mp_42, mp_45, gh_gp, gw_gp, gc_gp, mw_pne, Nat.or_zero, e1, e2, e3]
    refine ⟨t2, ?_, ?_, mh_trans (mh_p2 (Or.inl rfl)) (mh_trans h1 (mh_mg g2 m34g))⟩
    · have start : mj_call X (d + 8) 300 [.ref 42, .int (nI p), .int (nI q), .int (nI b.toNat)] (mw_U (mp s f)) = mj_exec X (d + 8) 300 78 [some (.ref 42), some (.int (nI p)), some (.int (nI q)), some (.int (nI b.toNat)), some (.int (nI (fhp (fwks Q f 5) p q))), some (.int (nI 0)), some (.int (-1)), some (.int (nI 0)), none, none] [] (mw_U (mp t2 f)) := by
        simp (disch := first | assumption | exact hf _ | omega) only [b300, b300_0, b300_10, b300_13, b300_18, b300_21, b300_25, b300_30, b300_35, b300_36, b300_41, b300_46, b300_47, b300_53, b300_56, b300_58, b300_64, b300_67, b300_84, b300_109, b300_120, b300_123, b300_136, b300_147, b300_150, b300_153, b300_162, b300_173, b300_175, b300_177, b300_183, b300_187, b300_192, b300_194, nI_add, mn_mul, mn_sub, mn_m1, mn_m8, mn_eq, mn_lt, mn_le, mn_eq0, mn_0eq, mn_lt0, mn_0lt, mn_le0, mn_0le, mn_eqm, mn_meq, mn_ltm, mn_mlt, mn_lem, mn_mle, mn_mm1, mn_mm2, mn_mm3, mn_mm4, mn_mm5, mn_mm6, mn_and, mn_or, mn_an, mn_shl, mn_shr, mn_div, mn_rem, mn_clamp, mn_in, mn_inm, mn_nz, mn_zo, mn_min, mn_max, mn_abs, mn_rfit, mn_cp, mn_les, mn_gre, mn_a127, mn_a15, mn_a1, mn_a255, mn_tn0, mn_tn0e, mn_tnr, mn_tnz, mr_get, mr_ne, mr_put, mu_ne, mu_eq, mj_bk_i, mj_bk_v, mj_bk_x, decide_eq_true_eq, decide_true, decide_false, Bool.false_eq_true, Bool.true_eq_false, reduceCtorEq, mt_le_t, mt_le_f, mt_lt_t, mt_lt_f, mt_eq_t, mt_eq_f, mt_ee, not_true_eq_false, not_false_eq_true, and_true, true_and, and_self, Nat.zero_add, Nat.add_zero, Nat.one_mul, Nat.mul_one, Nat.reduceAdd, Nat.reduceMul, Nat.reduceSub, Nat.reducePow, Nat.reduceDiv, Nat.reduceMod, ↓reduceIte, mp_h, mp_w, mp_c, mp_s, mp_d, mp_n, mp_54, mp_52, mp_55, mp_l, mp_o, mp_42, mp_45, gh_gp, gw_gp, gc_gp, mw_pne, Nat.or_zero, mp_wo, c239 hn8, i1, i2, hb1, hb2, hn, c229 hp' hq', h, c222 hp' hq', e301]
      rw [start]
      obtain ⟨hI, g_, e⟩ := mr_for (E := fun k (x : Nat × Option Nat) (l : Option Value × Option Value) => mj_exec X (d + 8) 300 78 [some (.ref 42), some (.int (nI p)), some (.int (nI q)), some (.int (nI b.toNat)), some (.int (nI (fhp (fwks Q f 5) p q))), some (.int (nI x.1)), some (.int (mo x.2)), some (.int (nI k)), l.1, l.2] [] (mw_U (mp t2 f))) (F := fun k x => (x.1 + (grs (f p) (f q) (fhp (fwks Q f 5) p q / 9) k).toNat, if grs (f p) (f q) (fhp (fwks Q f 5) p q / 9) k = true ∧ x.2 = none then some (10 * (k / 2) + k % 2) else x.2)) (I := fun k x => ∀ c, x.2 = some c → c < 20) (N := 4) (by
        intro k x l hk hI
        obtain ⟨c, o⟩ := x
        dsimp only at hI ⊢
        refine ⟨?_, (some (.int (nI (k / 2))), some (.int (nI (k % 2)))), ?_⟩
        · intro c hc
          split at hc
          · cases hc; omega
          · exact hI c hc
        have hk1 : k - k / 2 * 2 = k % 2 := by omega
        have hm : (mo o = -1) = (o = none) := by
          cases o with
          | none => simp [mo]
          | some b =>
            have := hI b rfl
            simp only [mo, mn_eqm (show b < 2147483648 by omega), reduceCtorEq]
        rw [b300_78]
        unfold grs
        by_cases q1 : gn (k / 2) (k % 2) (f p) (fhp (fwks Q f 5) p q / 9) < gn (1 - k / 2) (k % 2) (f p) (fhp (fwks Q f 5) p q / 9)
        · simp (disch := first | assumption | exact hf _ | omega) only [b300, b300_0, b300_10, b300_13, b300_18, b300_21, b300_25, b300_30, b300_35, b300_36, b300_41, b300_46, b300_47, b300_53, b300_56, b300_58, b300_64, b300_67, b300_84, b300_109, b300_120, b300_123, b300_136, b300_147, b300_150, b300_153, b300_162, b300_173, b300_175, b300_177, b300_183, b300_187, b300_192, b300_194, nI_add, mn_mul, mn_sub, mn_m1, mn_m8, mn_eq, mn_lt, mn_le, mn_eq0, mn_0eq, mn_lt0, mn_0lt, mn_le0, mn_0le, mn_eqm, mn_meq, mn_ltm, mn_mlt, mn_lem, mn_mle, mn_mm1, mn_mm2, mn_mm3, mn_mm4, mn_mm5, mn_mm6, mn_and, mn_or, mn_an, mn_shl, mn_shr, mn_div, mn_rem, mn_clamp, mn_in, mn_inm, mn_nz, mn_zo, mn_min, mn_max, mn_abs, mn_rfit, mn_cp, mn_les, mn_gre, mn_a127, mn_a15, mn_a1, mn_a255, mn_tn0, mn_tn0e, mn_tnr, mn_tnz, mr_get, mr_ne, mr_put, mu_ne, mu_eq, mj_bk_i, mj_bk_v, mj_bk_x, decide_eq_true_eq, decide_true, decide_false, Bool.false_eq_true, Bool.true_eq_false, reduceCtorEq, mt_le_t, mt_le_f, mt_lt_t, mt_lt_f, mt_eq_t, mt_eq_f, mt_ee, not_true_eq_false, not_false_eq_true, and_true, true_and, and_self, Nat.zero_add, Nat.add_zero, Nat.one_mul, Nat.mul_one, Nat.reduceAdd, Nat.reduceMul, Nat.reduceSub, Nat.reducePow, Nat.reduceDiv, Nat.reduceMod, ↓reduceIte, mp_h, mp_w, mp_c, mp_s, mp_d, mp_n, mp_54, mp_52, mp_55, mp_l, mp_o, mp_42, mp_45, gh_gp, gw_gp, gc_gp, mw_pne, Nat.or_zero, hk1, c302 hw hp' (show 1 - k / 2 < 2 by omega) (show k % 2 < 2 by omega) hl, c302 hw hp' (show k / 2 < 2 by omega) (show k % 2 < 2 by omega) hl, q1, Bool.not_true, Bool.false_and, Bool.toNat_false, false_and]
        · by_cases q2 : gn (1 - k % 2) (k / 2) (f q) (fhp (fwks Q f 5) p q / 9) ≤ gn (k % 2) (k / 2) (f q) (fhp (fwks Q f 5) p q / 9)
          · cases o with
            | none => simp (disch := first | assumption | exact hf _ | omega) only [b300, b300_0, b300_10, b300_13, b300_18, b300_21, b300_25, b300_30, b300_35, b300_36, b300_41, b300_46, b300_47, b300_53, b300_56, b300_58, b300_64, b300_67, b300_84, b300_109, b300_120, b300_123, b300_136, b300_147, b300_150, b300_153, b300_162, b300_173, b300_175, b300_177, b300_183, b300_187, b300_192, b300_194, nI_add, mn_mul, mn_sub, mn_m1, mn_m8, mn_eq, mn_lt, mn_le, mn_eq0, mn_0eq, mn_lt0, mn_0lt, mn_le0, mn_0le, mn_eqm, mn_meq, mn_ltm, mn_mlt, mn_lem, mn_mle, mn_mm1, mn_mm2, mn_mm3, mn_mm4, mn_mm5, mn_mm6, mn_and, mn_or, mn_an, mn_shl, mn_shr, mn_div, mn_rem, mn_clamp, mn_in, mn_inm, mn_nz, mn_zo, mn_min, mn_max, mn_abs, mn_rfit, mn_cp, mn_les, mn_gre, mn_a127, mn_a15, mn_a1, mn_a255, mn_tn0, mn_tn0e, mn_tnr, mn_tnz, mr_get, mr_ne, mr_put, mu_ne, mu_eq, mj_bk_i, mj_bk_v, mj_bk_x, decide_eq_true_eq, decide_true, decide_false, Bool.false_eq_true, Bool.true_eq_false, reduceCtorEq, mt_le_t, mt_le_f, mt_lt_t, mt_lt_f, mt_eq_t, mt_eq_f, mt_ee, not_true_eq_false, not_false_eq_true, and_true, true_and, and_self, Nat.zero_add, Nat.add_zero, Nat.one_mul, Nat.mul_one, Nat.reduceAdd, Nat.reduceMul, Nat.reduceSub, Nat.reducePow, Nat.reduceDiv, Nat.reduceMod, ↓reduceIte, mp_h, mp_w, mp_c, mp_s, mp_d, mp_n, mp_54, mp_52, mp_55, mp_l, mp_o, mp_42, mp_45, gh_gp, gw_gp, gc_gp, mw_pne, Nat.or_zero, hk1, c302 hw hp' (show 1 - k / 2 < 2 by omega) (show k % 2 < 2 by omega) hl, c302 hw hp' (show k / 2 < 2 by omega) (show k % 2 < 2 by omega) hl, q1, c302 hw hq' (show 1 - k % 2 < 2 by omega) (show k / 2 < 2 by omega) hl, c302 hw hq' (show k % 2 < 2 by omega) (show k / 2 < 2 by omega) hl, q2, Bool.not_false, Bool.and_self, Bool.toNat_true, mo]
            | some b =>
              have hbb := hI b rfl
              simp (disch := first | assumption | exact hf _ | omega) only [b300, b300_0, b300_10, b300_13, b300_18, b300_21, b300_25, b300_30, b300_35, b300_36, b300_41, b300_46, b300_47, b300_53, b300_56, b300_58, b300_64, b300_67, b300_84, b300_109, b300_120, b300_123, b300_136, b300_147, b300_150, b300_153, b300_162, b300_173, b300_175, b300_177, b300_183, b300_187, b300_192, b300_194, nI_add, mn_mul, mn_sub, mn_m1, mn_m8, mn_eq, mn_lt, mn_le, mn_eq0, mn_0eq, mn_lt0, mn_0lt, mn_le0, mn_0le, mn_eqm, mn_meq, mn_ltm, mn_mlt, mn_lem, mn_mle, mn_mm1, mn_mm2, mn_mm3, mn_mm4, mn_mm5, mn_mm6, mn_and, mn_or, mn_an, mn_shl, mn_shr, mn_div, mn_rem, mn_clamp, mn_in, mn_inm, mn_nz, mn_zo, mn_min, mn_max, mn_abs, mn_rfit, mn_cp, mn_les, mn_gre, mn_a127, mn_a15, mn_a1, mn_a255, mn_tn0, mn_tn0e, mn_tnr, mn_tnz, mr_get, mr_ne, mr_put, mu_ne, mu_eq, mj_bk_i, mj_bk_v, mj_bk_x, decide_eq_true_eq, decide_true, decide_false, Bool.false_eq_true, Bool.true_eq_false, reduceCtorEq, mt_le_t, mt_le_f, mt_lt_t, mt_lt_f, mt_eq_t, mt_eq_f, mt_ee, not_true_eq_false, not_false_eq_true, and_true, true_and, and_self, Nat.zero_add, Nat.add_zero, Nat.one_mul, Nat.mul_one, Nat.reduceAdd, Nat.reduceMul, Nat.reduceSub, Nat.reducePow, Nat.reduceDiv, Nat.reduceMod, ↓reduceIte, mp_h, mp_w, mp_c, mp_s, mp_d, mp_n, mp_54, mp_52, mp_55, mp_l, mp_o, mp_42, mp_45, gh_gp, gw_gp, gc_gp, mw_pne, Nat.or_zero, hk1, c302 hw hp' (show 1 - k / 2 < 2 by omega) (show k % 2 < 2 by omega) hl, c302 hw hp' (show k / 2 < 2 by omega) (show k % 2 < 2 by omega) hl, q1, c302 hw hq' (show 1 - k % 2 < 2 by omega) (show k / 2 < 2 by omega) hl, c302 hw hq' (show k % 2 < 2 by omega) (show k / 2 < 2 by omega) hl, q2, Bool.not_false, Bool.and_self, Bool.toNat_true, mo, and_false]
          · simp (disch := first | assumption | exact hf _ | omega) only [b300, b300_0, b300_10, b300_13, b300_18, b300_21, b300_25, b300_30, b300_35, b300_36, b300_41, b300_46, b300_47, b300_53, b300_56, b300_58, b300_64, b300_67, b300_84, b300_109, b300_120, b300_123, b300_136, b300_147, b300_150, b300_153, b300_162, b300_173, b300_175, b300_177, b300_183, b300_187, b300_192, b300_194, nI_add, mn_mul, mn_sub, mn_m1, mn_m8, mn_eq, mn_lt, mn_le, mn_eq0, mn_0eq, mn_lt0, mn_0lt, mn_le0, mn_0le, mn_eqm, mn_meq, mn_ltm, mn_mlt, mn_lem, mn_mle, mn_mm1, mn_mm2, mn_mm3, mn_mm4, mn_mm5, mn_mm6, mn_and, mn_or, mn_an, mn_shl, mn_shr, mn_div, mn_rem, mn_clamp, mn_in, mn_inm, mn_nz, mn_zo, mn_min, mn_max, mn_abs, mn_rfit, mn_cp, mn_les, mn_gre, mn_a127, mn_a15, mn_a1, mn_a255, mn_tn0, mn_tn0e, mn_tnr, mn_tnz, mr_get, mr_ne, mr_put, mu_ne, mu_eq, mj_bk_i, mj_bk_v, mj_bk_x, decide_eq_true_eq, decide_true, decide_false, Bool.false_eq_true, Bool.true_eq_false, reduceCtorEq, mt_le_t, mt_le_f, mt_lt_t, mt_lt_f, mt_eq_t, mt_eq_f, mt_ee, not_true_eq_false, not_false_eq_true, and_true, true_and, and_self, Nat.zero_add, Nat.add_zero, Nat.one_mul, Nat.mul_one, Nat.reduceAdd, Nat.reduceMul, Nat.reduceSub, Nat.reducePow, Nat.reduceDiv, Nat.reduceMod, ↓reduceIte, mp_h, mp_w, mp_c, mp_s, mp_d, mp_n, mp_54, mp_52, mp_55, mp_l, mp_o, mp_42, mp_45, gh_gp, gw_gp, gc_gp, mw_pne, Nat.or_zero, hk1, c302 hw hp' (show 1 - k / 2 < 2 by omega) (show k % 2 < 2 by omega) hl, c302 hw hp' (show k / 2 < 2 by omega) (show k % 2 < 2 by omega) hl, q1, c302 hw hq' (show 1 - k % 2 < 2 by omega) (show k / 2 < 2 by omega) hl, c302 hw hq' (show k % 2 < 2 by omega) (show k / 2 < 2 by omega) hl, q2, Bool.and_false, Bool.toNat_false, false_and]) (a := (0, none)) (by intro c hc; cases hc) (none, none) 4 (Nat.le_refl 4)
      refine e.trans ?_
      have efst : ∀ n, (mr_it (fun k (x : Nat × Option Nat) => (x.1 + (grs (f p) (f q) (fhp (fwks Q f 5) p q / 9) k).toNat, if grs (f p) (f q) (fhp (fwks Q f 5) p q / 9) k = true ∧ x.2 = none then some (10 * (k / 2) + k % 2) else x.2)) n (0, none)) = (mr_it (fun k c => c + (grs (f p) (f q) (fhp (fwks Q f 5) p q / 9) k).toNat) n 0, mr_it (fun k (o : Option Nat) => if grs (f p) (f q) (fhp (fwks Q f 5) p q / 9) k = true ∧ o = none then some (10 * (k / 2) + k % 2) else o) n none) := by
        intro n
        induction n with
        | zero => rfl
        | succ n ih => rw [mr_it, mr_it, mr_it, ih]
      rw [efst 4, b300_78]
      cases b
      · simp (disch := first | assumption | exact hf _ | omega) only [b300, b300_0, b300_10, b300_13, b300_18, b300_21, b300_25, b300_30, b300_35, b300_36, b300_41, b300_46, b300_47, b300_53, b300_56, b300_58, b300_64, b300_67, b300_84, b300_109, b300_120, b300_123, b300_136, b300_147, b300_150, b300_153, b300_162, b300_173, b300_175, b300_177, b300_183, b300_187, b300_192, b300_194, nI_add, mn_mul, mn_sub, mn_m1, mn_m8, mn_eq, mn_lt, mn_le, mn_eq0, mn_0eq, mn_lt0, mn_0lt, mn_le0, mn_0le, mn_eqm, mn_meq, mn_ltm, mn_mlt, mn_lem, mn_mle, mn_mm1, mn_mm2, mn_mm3, mn_mm4, mn_mm5, mn_mm6, mn_and, mn_or, mn_an, mn_shl, mn_shr, mn_div, mn_rem, mn_clamp, mn_in, mn_inm, mn_nz, mn_zo, mn_min, mn_max, mn_abs, mn_rfit, mn_cp, mn_les, mn_gre, mn_a127, mn_a15, mn_a1, mn_a255, mn_tn0, mn_tn0e, mn_tnr, mn_tnz, mr_get, mr_ne, mr_put, mu_ne, mu_eq, mj_bk_i, mj_bk_v, mj_bk_x, decide_eq_true_eq, decide_true, decide_false, Bool.false_eq_true, Bool.true_eq_false, reduceCtorEq, mt_le_t, mt_le_f, mt_lt_t, mt_lt_f, mt_eq_t, mt_eq_f, mt_ee, not_true_eq_false, not_false_eq_true, and_true, true_and, and_self, Nat.zero_add, Nat.add_zero, Nat.one_mul, Nat.mul_one, Nat.reduceAdd, Nat.reduceMul, Nat.reduceSub, Nat.reducePow, Nat.reduceDiv, Nat.reduceMod, ↓reduceIte, mp_h, mp_w, mp_c, mp_s, mp_d, mp_n, mp_54, mp_52, mp_55, mp_l, mp_o, mp_42, mp_45, gh_gp, gw_gp, gc_gp, mw_pne, Nat.or_zero, h, Bool.toNat_false]
        rfl
      · simp (disch := first | assumption | exact hf _ | omega) only [b300, b300_0, b300_10, b300_13, b300_18, b300_21, b300_25, b300_30, b300_35, b300_36, b300_41, b300_46, b300_47, b300_53, b300_56, b300_58, b300_64, b300_67, b300_84, b300_109, b300_120, b300_123, b300_136, b300_147, b300_150, b300_153, b300_162, b300_173, b300_175, b300_177, b300_183, b300_187, b300_192, b300_194, nI_add, mn_mul, mn_sub, mn_m1, mn_m8, mn_eq, mn_lt, mn_le, mn_eq0, mn_0eq, mn_lt0, mn_0lt, mn_le0, mn_0le, mn_eqm, mn_meq, mn_ltm, mn_mlt, mn_lem, mn_mle, mn_mm1, mn_mm2, mn_mm3, mn_mm4, mn_mm5, mn_mm6, mn_and, mn_or, mn_an, mn_shl, mn_shr, mn_div, mn_rem, mn_clamp, mn_in, mn_inm, mn_nz, mn_zo, mn_min, mn_max, mn_abs, mn_rfit, mn_cp, mn_les, mn_gre, mn_a127, mn_a15, mn_a1, mn_a255, mn_tn0, mn_tn0e, mn_tnr, mn_tnz, mr_get, mr_ne, mr_put, mu_ne, mu_eq, mj_bk_i, mj_bk_v, mj_bk_x, decide_eq_true_eq, decide_true, decide_false, Bool.false_eq_true, Bool.true_eq_false, reduceCtorEq, mt_le_t, mt_le_f, mt_lt_t, mt_lt_f, mt_eq_t, mt_eq_f, mt_ee, not_true_eq_false, not_false_eq_true, and_true, true_and, and_self, Nat.zero_add, Nat.add_zero, Nat.one_mul, Nat.mul_one, Nat.reduceAdd, Nat.reduceMul, Nat.reduceSub, Nat.reducePow, Nat.reduceDiv, Nat.reduceMod, ↓reduceIte, mp_h, mp_w, mp_c, mp_s, mp_d, mp_n, mp_54, mp_52, mp_55, mp_l, mp_o, mp_42, mp_45, gh_gp, gw_gp, gc_gp, mw_pne, Nat.or_zero, h, Bool.toNat_true]
        rfl
    · rw [g2.2 42 (by unfold m34; omega), g1.2 42 (by decide), mw_peq]
  · rw [if_neg h]
    refine ⟨mw_p s 42 2 (nI 0), ?_, mw_peq, mh_p2 (Or.inl rfl)⟩
    simp (disch := first | assumption | exact hf _ | omega) only [b300, b300_0, b300_10, b300_13, b300_18, b300_21, b300_25, b300_30, b300_35, b300_36, b300_41, b300_46, b300_47, b300_53, b300_56, b300_58, b300_64, b300_67, b300_84, b300_109, b300_120, b300_123, b300_136, b300_147, b300_150, b300_153, b300_162, b300_173, b300_175, b300_177, b300_183, b300_187, b300_192, b300_194, nI_add, mn_mul, mn_sub, mn_m1, mn_m8, mn_eq, mn_lt, mn_le, mn_eq0, mn_0eq, mn_lt0, mn_0lt, mn_le0, mn_0le, mn_eqm, mn_meq, mn_ltm, mn_mlt, mn_lem, mn_mle, mn_mm1, mn_mm2, mn_mm3, mn_mm4, mn_mm5, mn_mm6, mn_and, mn_or, mn_an, mn_shl, mn_shr, mn_div, mn_rem, mn_clamp, mn_in, mn_inm, mn_nz, mn_zo, mn_min, mn_max, mn_abs, mn_rfit, mn_cp, mn_les, mn_gre, mn_a127, mn_a15, mn_a1, mn_a255, mn_tn0, mn_tn0e, mn_tnr, mn_tnz, mr_get, mr_ne, mr_put, mu_ne, mu_eq, mj_bk_i, mj_bk_v, mj_bk_x, decide_eq_true_eq, decide_true, decide_false, Bool.false_eq_true, Bool.true_eq_false, reduceCtorEq, mt_le_t, mt_le_f, mt_lt_t, mt_lt_f, mt_eq_t, mt_eq_f, mt_ee, not_true_eq_false, not_false_eq_true, and_true, true_and, and_self, Nat.zero_add, Nat.add_zero, Nat.one_mul, Nat.mul_one, Nat.reduceAdd, Nat.reduceMul, Nat.reduceSub, Nat.reducePow, Nat.reduceDiv, Nat.reduceMod, ↓reduceIte, mp_h, mp_w, mp_c, mp_s, mp_d, mp_n, mp_54, mp_52, mp_55, mp_l, mp_o, mp_42, mp_45, gh_gp, gw_gp, gc_gp, mw_pne, Nat.or_zero, mp_wo, c239 hn8, i1, i2, hb1, hb2, hn, c229 hp' hq', h]
theorem c305 {sd : Int32} {n : Nat} (hs : s.1 42 47 = sd) (hn : 0 < n) (hn2 : n < 100) : mj_call X d 305 [.ref 42, .int (nI n)] (mw_U (mp s f)) = some (.inl (some (.int (nI (dq (dr sd) % n)))), mw_U (mp (mw_p s 42 47 (dr sd)) f)) := by
  have hl := dq_lt (dr sd)
  have he := (dr_eq sd).symm
  rw [b305, b305_0]
  simp (disch := first | assumption | exact hf _ | omega) only [mp_42, hs, he, mp_wo, mw_peq, dq_r, mn_nz, decide_eq_true_eq, mt_eq_f, not_false_eq_true, ↓reduceIte, mn_div, mn_mul, mn_rem]
theorem mw47 {s : mw_S} {v w : Int32} : mw_p (mw_p s 42 47 v) 42 47 w = mw_p s 42 47 w := mw_pp
theorem c304 (hw : wf f (f 52)) {sd : Int32} (hs : s.1 42 47 = sd) : mj_call X (d + 3) 304 [.ref 42] (mw_U (mp s f)) = some (.inl none, mw_U (mp (mw_p s 42 47 (yst f sd).2) (yst f sd).1)) := by
  have hn := wf_n hw
  have hf := wf_lt hw
  unfold yst
  have e1 : ∀ {d : Nat}, mj_call X d 305 [.ref 42, .int (nI 8)] (mw_U (mp s f)) = some (.inl (some (.int (nI (dq (dr sd) % 8)))), mw_U (mp (mw_p s 42 47 (dr sd)) f)) := c305 hs (by decide) (by decide)
  have b1 : dq (dr sd) % 8 < 8 := Nat.mod_lt _ (by decide)
  by_cases h0 : 2 < dq (dr sd) % 8
  · rw [if_pos (Or.inl h0)]
    simp (disch := first | assumption | exact hf _ | omega) only [b304, b304_0, b304_6, b304_12, b304_21, b304_22, b304_32, b304_37, b304_42, b304_45, b304_50, b304_51, b304_61, b304_67, b304_73, b304_76, b304_82, b304_83, b304_89, b304_99, b304_107, b304_110, b304_120, nI_add, mn_mul, mn_sub, mn_m1, mn_m8, mn_eq, mn_lt, mn_le, mn_eq0, mn_0eq, mn_lt0, mn_0lt, mn_le0, mn_0le, mn_eqm, mn_meq, mn_ltm, mn_mlt, mn_lem, mn_mle, mn_mm1, mn_mm2, mn_mm3, mn_mm4, mn_mm5, mn_mm6, mn_and, mn_or, mn_an, mn_shl, mn_shr, mn_div, mn_rem, mn_clamp, mn_in, mn_inm, mn_nz, mn_zo, mn_min, mn_max, mn_abs, mn_rfit, mn_cp, mn_les, mn_gre, mn_a127, mn_a15, mn_a1, mn_a255, mn_tn0, mn_tn0e, mn_tnr, mn_tnz, mr_get, mr_ne, mr_put, mu_ne, mu_eq, mj_bk_i, mj_bk_v, mj_bk_x, decide_eq_true_eq, decide_true, decide_false, Bool.false_eq_true, Bool.true_eq_false, reduceCtorEq, mt_le_t, mt_le_f, mt_lt_t, mt_lt_f, mt_eq_t, mt_eq_f, mt_ee, not_true_eq_false, not_false_eq_true, and_true, true_and, and_self, Nat.zero_add, Nat.add_zero, Nat.one_mul, Nat.mul_one, Nat.reduceAdd, Nat.reduceMul, Nat.reduceSub, Nat.reducePow, Nat.reduceDiv, Nat.reduceMod, ↓reduceIte, mp_h, mp_w, mp_c, mp_s, mp_d, mp_n, mp_54, mp_52, mp_55, mp_l, mp_o, mp_42, mp_45, gh_gp, gw_gp, gc_gp, mw_pne, Nat.or_zero, e1, h0]
  by_cases h1 : f 55 = 0
  · rw [if_pos (Or.inr h1)]
    simp (disch := first | assumption | exact hf _ | omega) only [b304, b304_0, b304_6, b304_12, b304_21, b304_22, b304_32, b304_37, b304_42, b304_45, b304_50, b304_51, b304_61, b304_67, b304_73, b304_76, b304_82, b304_83, b304_89, b304_99, b304_107, b304_110, b304_120, nI_add, mn_mul, mn_sub, mn_m1, mn_m8, mn_eq, mn_lt, mn_le, mn_eq0, mn_0eq, mn_lt0, mn_0lt, mn_le0, mn_0le, mn_eqm, mn_meq, mn_ltm, mn_mlt, mn_lem, mn_mle, mn_mm1, mn_mm2, mn_mm3, mn_mm4, mn_mm5, mn_mm6, mn_and, mn_or, mn_an, mn_shl, mn_shr, mn_div, mn_rem, mn_clamp, mn_in, mn_inm, mn_nz, mn_zo, mn_min, mn_max, mn_abs, mn_rfit, mn_cp, mn_les, mn_gre, mn_a127, mn_a15, mn_a1, mn_a255, mn_tn0, mn_tn0e, mn_tnr, mn_tnz, mr_get, mr_ne, mr_put, mu_ne, mu_eq, mj_bk_i, mj_bk_v, mj_bk_x, decide_eq_true_eq, decide_true, decide_false, Bool.false_eq_true, Bool.true_eq_false, reduceCtorEq, mt_le_t, mt_le_f, mt_lt_t, mt_lt_f, mt_eq_t, mt_eq_f, mt_ee, not_true_eq_false, not_false_eq_true, and_true, true_and, and_self, Nat.zero_add, Nat.add_zero, Nat.one_mul, Nat.mul_one, Nat.reduceAdd, Nat.reduceMul, Nat.reduceSub, Nat.reducePow, Nat.reduceDiv, Nat.reduceMod, ↓reduceIte, mp_h, mp_w, mp_c, mp_s, mp_d, mp_n, mp_54, mp_52, mp_55, mp_l, mp_o, mp_42, mp_45, gh_gp, gw_gp, gc_gp, mw_pne, Nat.or_zero, e1, h0, h1]
  rw [if_neg (by omega)]
  have hpos : 0 < f 55 := by omega
  have e2 : ∀ {d : Nat}, mj_call X d 305 [.ref 42, .int (nI (f 55))] (mw_U (mp (mw_p s 42 47 (dr sd)) f)) = some (.inl (some (.int (nI (dq (dr (dr sd)) % f 55)))), mw_U (mp (mw_p s 42 47 (dr (dr sd))) f)) := by
    intro d
    have := c305 (X := X) (d := d) (s := mw_p s 42 47 (dr sd)) (f := f) (sd := dr sd) (n := f 55) mw_peq hpos (by omega)
    rwa [mw47] at this
  have e3 : ∀ {d : Nat}, mj_call X d 305 [.ref 42, .int (nI (f 55))] (mw_U (mp (mw_p s 42 47 (dr (dr sd))) f)) = some (.inl (some (.int (nI (dq (dr (dr (dr sd))) % f 55)))), mw_U (mp (mw_p s 42 47 (dr (dr (dr sd)))) f)) := by
    intro d
    have := c305 (X := X) (d := d) (s := mw_p s 42 47 (dr (dr sd))) (f := f) (sd := dr (dr sd)) (n := f 55) mw_peq hpos (by omega)
    rwa [mw47] at this
  have e4 : ∀ {d : Nat}, mj_call X d 305 [.ref 42, .int (nI 30)] (mw_U (mp (mw_p s 42 47 (dr (dr (dr sd)))) f)) = some (.inl (some (.int (nI (dq (dr (dr (dr (dr sd)))) % 30)))), mw_U (mp (mw_p s 42 47 (dr (dr (dr (dr sd))))) f)) := by
    intro d
    have := c305 (X := X) (d := d) (s := mw_p s 42 47 (dr (dr (dr sd)))) (f := f) (sd := dr (dr (dr sd))) (n := 30) mw_peq (by decide) (by decide)
    rwa [mw47] at this
  have e5 : ∀ {d : Nat}, mj_call X d 305 [.ref 42, .int (nI 10)] (mw_U (mp (mw_p s 42 47 (dr (dr (dr (dr sd))))) f)) = some (.inl (some (.int (nI (dq (dr (dr (dr (dr (dr sd))))) % 10)))), mw_U (mp (mw_p s 42 47 (dr (dr (dr (dr (dr sd)))))) f)) := by
    intro d
    have := c305 (X := X) (d := d) (s := mw_p s 42 47 (dr (dr (dr (dr sd))))) (f := f) (sd := dr (dr (dr (dr sd)))) (n := 10) mw_peq (by decide) (by decide)
    rwa [mw47] at this
  have ha : dq (dr (dr sd)) % f 55 < 8 := Nat.lt_of_lt_of_le (Nat.mod_lt _ hpos) hn
  have hb : dq (dr (dr (dr sd))) % f 55 < 8 := Nat.lt_of_lt_of_le (Nat.mod_lt _ hpos) hn
  generalize dq (dr (dr sd)) % f 55 = a at *
  generalize dq (dr (dr (dr sd))) % f 55 = b at *
  by_cases h2 : dq (dr sd) % 8 = 0
  · rw [if_pos h2]
    cases hl : (f 52).testBit a
    · simp (disch := first | assumption | exact hf _ | omega) only [b304, b304_0, b304_6, b304_12, b304_21, b304_22, b304_32, b304_37, b304_42, b304_45, b304_50, b304_51, b304_61, b304_67, b304_73, b304_76, b304_82, b304_83, b304_89, b304_99, b304_107, b304_110, b304_120, nI_add, mn_mul, mn_sub, mn_m1, mn_m8, mn_eq, mn_lt, mn_le, mn_eq0, mn_0eq, mn_lt0, mn_0lt, mn_le0, mn_0le, mn_eqm, mn_meq, mn_ltm, mn_mlt, mn_lem, mn_mle, mn_mm1, mn_mm2, mn_mm3, mn_mm4, mn_mm5, mn_mm6, mn_and, mn_or, mn_an, mn_shl, mn_shr, mn_div, mn_rem, mn_clamp, mn_in, mn_inm, mn_nz, mn_zo, mn_min, mn_max, mn_abs, mn_rfit, mn_cp, mn_les, mn_gre, mn_a127, mn_a15, mn_a1, mn_a255, mn_tn0, mn_tn0e, mn_tnr, mn_tnz, mr_get, mr_ne, mr_put, mu_ne, mu_eq, mj_bk_i, mj_bk_v, mj_bk_x, decide_eq_true_eq, decide_true, decide_false, Bool.false_eq_true, Bool.true_eq_false, reduceCtorEq, mt_le_t, mt_le_f, mt_lt_t, mt_lt_f, mt_eq_t, mt_eq_f, mt_ee, not_true_eq_false, not_false_eq_true, and_true, true_and, and_self, Nat.zero_add, Nat.add_zero, Nat.one_mul, Nat.mul_one, Nat.reduceAdd, Nat.reduceMul, Nat.reduceSub, Nat.reducePow, Nat.reduceDiv, Nat.reduceMod, ↓reduceIte, mp_h, mp_w, mp_c, mp_s, mp_d, mp_n, mp_54, mp_52, mp_55, mp_l, mp_o, mp_42, mp_45, gh_gp, gw_gp, gc_gp, mw_pne, Nat.or_zero, e1, h2, h1, e2, c241 hf (show a < 32 by omega), hl]
    · simp (disch := first | assumption | exact hf _ | omega) only [b304, b304_0, b304_6, b304_12, b304_21, b304_22, b304_32, b304_37, b304_42, b304_45, b304_50, b304_51, b304_61, b304_67, b304_73, b304_76, b304_82, b304_83, b304_89, b304_99, b304_107, b304_110, b304_120, nI_add, mn_mul, mn_sub, mn_m1, mn_m8, mn_eq, mn_lt, mn_le, mn_eq0, mn_0eq, mn_lt0, mn_0lt, mn_le0, mn_0le, mn_eqm, mn_meq, mn_ltm, mn_mlt, mn_lem, mn_mle, mn_mm1, mn_mm2, mn_mm3, mn_mm4, mn_mm5, mn_mm6, mn_and, mn_or, mn_an, mn_shl, mn_shr, mn_div, mn_rem, mn_clamp, mn_in, mn_inm, mn_nz, mn_zo, mn_min, mn_max, mn_abs, mn_rfit, mn_cp, mn_les, mn_gre, mn_a127, mn_a15, mn_a1, mn_a255, mn_tn0, mn_tn0e, mn_tnr, mn_tnz, mr_get, mr_ne, mr_put, mu_ne, mu_eq, mj_bk_i, mj_bk_v, mj_bk_x, decide_eq_true_eq, decide_true, decide_false, Bool.false_eq_true, Bool.true_eq_false, reduceCtorEq, mt_le_t, mt_le_f, mt_lt_t, mt_lt_f, mt_eq_t, mt_eq_f, mt_ee, not_true_eq_false, not_false_eq_true, and_true, true_and, and_self, Nat.zero_add, Nat.add_zero, Nat.one_mul, Nat.mul_one, Nat.reduceAdd, Nat.reduceMul, Nat.reduceSub, Nat.reducePow, Nat.reduceDiv, Nat.reduceMod, ↓reduceIte, mp_h, mp_w, mp_c, mp_s, mp_d, mp_n, mp_54, mp_52, mp_55, mp_l, mp_o, mp_42, mp_45, gh_gp, gw_gp, gc_gp, mw_pne, Nat.or_zero, e1, h2, h1, e2, c241 hf (show a < 32 by omega), hl, c257 hw hpos ha]
  · rw [if_neg h2]
    by_cases h3 : dq (dr sd) % 8 = 2
    · rw [if_pos h3]
      cases hc : fcm f a b
      · simp (disch := first | assumption | exact hf _ | omega) only [b304, b304_0, b304_6, b304_12, b304_21, b304_22, b304_32, b304_37, b304_42, b304_45, b304_50, b304_51, b304_61, b304_67, b304_73, b304_76, b304_82, b304_83, b304_89, b304_99, b304_107, b304_110, b304_120, nI_add, mn_mul, mn_sub, mn_m1, mn_m8, mn_eq, mn_lt, mn_le, mn_eq0, mn_0eq, mn_lt0, mn_0lt, mn_le0, mn_0le, mn_eqm, mn_meq, mn_ltm, mn_mlt, mn_lem, mn_mle, mn_mm1, mn_mm2, mn_mm3, mn_mm4, mn_mm5, mn_mm6, mn_and, mn_or, mn_an, mn_shl, mn_shr, mn_div, mn_rem, mn_clamp, mn_in, mn_inm, mn_nz, mn_zo, mn_min, mn_max, mn_abs, mn_rfit, mn_cp, mn_les, mn_gre, mn_a127, mn_a15, mn_a1, mn_a255, mn_tn0, mn_tn0e, mn_tnr, mn_tnz, mr_get, mr_ne, mr_put, mu_ne, mu_eq, mj_bk_i, mj_bk_v, mj_bk_x, decide_eq_true_eq, decide_true, decide_false, Bool.false_eq_true, Bool.true_eq_false, reduceCtorEq, mt_le_t, mt_le_f, mt_lt_t, mt_lt_f, mt_eq_t, mt_eq_f, mt_ee, not_true_eq_false, not_false_eq_true, and_true, true_and, and_self, Nat.zero_add, Nat.add_zero, Nat.one_mul, Nat.mul_one, Nat.reduceAdd, Nat.reduceMul, Nat.reduceSub, Nat.reducePow, Nat.reduceDiv, Nat.reduceMod, ↓reduceIte, mp_h, mp_w, mp_c, mp_s, mp_d, mp_n, mp_54, mp_52, mp_55, mp_l, mp_o, mp_42, mp_45, gh_gp, gw_gp, gc_gp, mw_pne, Nat.or_zero, e1, h3, h1, e2, e3, c261 hw ha hb, hc]
      · have hne := (wf_mar hw ha hb hc).2
        simp (disch := first | assumption | exact hf _ | omega) only [b304, b304_0, b304_6, b304_12, b304_21, b304_22, b304_32, b304_37, b304_42, b304_45, b304_50, b304_51, b304_61, b304_67, b304_73, b304_76, b304_82, b304_83, b304_89, b304_99, b304_107, b304_110, b304_120, nI_add, mn_mul, mn_sub, mn_m1, mn_m8, mn_eq, mn_lt, mn_le, mn_eq0, mn_0eq, mn_lt0, mn_0lt, mn_le0, mn_0le, mn_eqm, mn_meq, mn_ltm, mn_mlt, mn_lem, mn_mle, mn_mm1, mn_mm2, mn_mm3, mn_mm4, mn_mm5, mn_mm6, mn_and, mn_or, mn_an, mn_shl, mn_shr, mn_div, mn_rem, mn_clamp, mn_in, mn_inm, mn_nz, mn_zo, mn_min, mn_max, mn_abs, mn_rfit, mn_cp, mn_les, mn_gre, mn_a127, mn_a15, mn_a1, mn_a255, mn_tn0, mn_tn0e, mn_tnr, mn_tnz, mr_get, mr_ne, mr_put, mu_ne, mu_eq, mj_bk_i, mj_bk_v, mj_bk_x, decide_eq_true_eq, decide_true, decide_false, Bool.false_eq_true, Bool.true_eq_false, reduceCtorEq, mt_le_t, mt_le_f, mt_lt_t, mt_lt_f, mt_eq_t, mt_eq_f, mt_ee, not_true_eq_false, not_false_eq_true, and_true, true_and, and_self, Nat.zero_add, Nat.add_zero, Nat.one_mul, Nat.mul_one, Nat.reduceAdd, Nat.reduceMul, Nat.reduceSub, Nat.reducePow, Nat.reduceDiv, Nat.reduceMod, ↓reduceIte, mp_h, mp_w, mp_c, mp_s, mp_d, mp_n, mp_54, mp_52, mp_55, mp_l, mp_o, mp_42, mp_45, gh_gp, gw_gp, gc_gp, mw_pne, Nat.or_zero, e1, h3, h1, e2, e3, c261 hw ha hb, hc, c262 hpos ha hb hne]
    · rw [if_neg h3]
      have b4 : dq (dr (dr (dr (dr sd)))) % 30 < 30 := Nat.mod_lt _ (by decide)
      have b5 : dq (dr (dr (dr (dr (dr sd))))) % 10 < 10 := Nat.mod_lt _ (by decide)
      cases hc : fcq f a b
      · simp (disch := first | assumption | exact hf _ | omega) only [b304, b304_0, b304_6, b304_12, b304_21, b304_22, b304_32, b304_37, b304_42, b304_45, b304_50, b304_51, b304_61, b304_67, b304_73, b304_76, b304_82, b304_83, b304_89, b304_99, b304_107, b304_110, b304_120, nI_add, mn_mul, mn_sub, mn_m1, mn_m8, mn_eq, mn_lt, mn_le, mn_eq0, mn_0eq, mn_lt0, mn_0lt, mn_le0, mn_0le, mn_eqm, mn_meq, mn_ltm, mn_mlt, mn_lem, mn_mle, mn_mm1, mn_mm2, mn_mm3, mn_mm4, mn_mm5, mn_mm6, mn_and, mn_or, mn_an, mn_shl, mn_shr, mn_div, mn_rem, mn_clamp, mn_in, mn_inm, mn_nz, mn_zo, mn_min, mn_max, mn_abs, mn_rfit, mn_cp, mn_les, mn_gre, mn_a127, mn_a15, mn_a1, mn_a255, mn_tn0, mn_tn0e, mn_tnr, mn_tnz, mr_get, mr_ne, mr_put, mu_ne, mu_eq, mj_bk_i, mj_bk_v, mj_bk_x, decide_eq_true_eq, decide_true, decide_false, Bool.false_eq_true, Bool.true_eq_false, reduceCtorEq, mt_le_t, mt_le_f, mt_lt_t, mt_lt_f, mt_eq_t, mt_eq_f, mt_ee, not_true_eq_false, not_false_eq_true, and_true, true_and, and_self, Nat.zero_add, Nat.add_zero, Nat.one_mul, Nat.mul_one, Nat.reduceAdd, Nat.reduceMul, Nat.reduceSub, Nat.reducePow, Nat.reduceDiv, Nat.reduceMod, ↓reduceIte, mp_h, mp_w, mp_c, mp_s, mp_d, mp_n, mp_54, mp_52, mp_55, mp_l, mp_o, mp_42, mp_45, gh_gp, gw_gp, gc_gp, mw_pne, Nat.or_zero, e1, h0, h2, h3, h1, e2, e3, e4, e5, c265 hw ha hb, hc]
      · have hne := (wf_pik (a := 1) (b := 1) hw ha hb hc (by decide) (by decide) (by decide)).2
        simp (disch := first | assumption | exact hf _ | omega) only [b304, b304_0, b304_6, b304_12, b304_21, b304_22, b304_32, b304_37, b304_42, b304_45, b304_50, b304_51, b304_61, b304_67, b304_73, b304_76, b304_82, b304_83, b304_89, b304_99, b304_107, b304_110, b304_120, nI_add, mn_mul, mn_sub, mn_m1, mn_m8, mn_eq, mn_lt, mn_le, mn_eq0, mn_0eq, mn_lt0, mn_0lt, mn_le0, mn_0le, mn_eqm, mn_meq, mn_ltm, mn_mlt, mn_lem, mn_mle, mn_mm1, mn_mm2, mn_mm3, mn_mm4, mn_mm5, mn_mm6, mn_and, mn_or, mn_an, mn_shl, mn_shr, mn_div, mn_rem, mn_clamp, mn_in, mn_inm, mn_nz, mn_zo, mn_min, mn_max, mn_abs, mn_rfit, mn_cp, mn_les, mn_gre, mn_a127, mn_a15, mn_a1, mn_a255, mn_tn0, mn_tn0e, mn_tnr, mn_tnz, mr_get, mr_ne, mr_put, mu_ne, mu_eq, mj_bk_i, mj_bk_v, mj_bk_x, decide_eq_true_eq, decide_true, decide_false, Bool.false_eq_true, Bool.true_eq_false, reduceCtorEq, mt_le_t, mt_le_f, mt_lt_t, mt_lt_f, mt_eq_t, mt_eq_f, mt_ee, not_true_eq_false, not_false_eq_true, and_true, true_and, and_self, Nat.zero_add, Nat.add_zero, Nat.one_mul, Nat.mul_one, Nat.reduceAdd, Nat.reduceMul, Nat.reduceSub, Nat.reducePow, Nat.reduceDiv, Nat.reduceMod, ↓reduceIte, mp_h, mp_w, mp_c, mp_s, mp_d, mp_n, mp_54, mp_52, mp_55, mp_l, mp_o, mp_42, mp_45, gh_gp, gw_gp, gc_gp, mw_pne, Nat.or_zero, e1, h0, h2, h3, h1, e2, e3, e4, e5, c265 hw ha hb, hc, c266 ha hb hne (show dq (dr (dr (dr (dr sd)))) % 30 + 1 < 128 by omega) (show dq (dr (dr (dr (dr (dr sd))))) % 10 < 16 by omega)]
def yan (g : Nat → Nat) (w : Nat) : Nat := if w = 0 then g 52 else if w = 1 then fn_all g else fn_many g
theorem m303 (hw : wf f (f 52)) (hq : rM s Q) (ho : rOK Q) (h54 : f 54 ≤ 999) {sd : Int32} {n w : Nat} (hn : n ≤ 60) (hw2 : w ≤ 2) : ∃ t, mj_call X (d + 7) 303 [.ref 42, .int sd, .int (nI n), .int (nI w)] (mw_U (mp s f)) = some (.inl (some (.int (nI (yan (yrs Q f sd n).1 w)))), mw_U (mp t f)) ∧ t.1 42 2 = nI 0 ∧ mh s t := by
  have i3 := ib_t (lo := 0) (Nat.zero_le n) hn (by decide)
  have i4 := ib_t (lo := 0) (Nat.zero_le w) hw2 (by decide)
  have m0 : mh s (mw_p s 42 2 (nI 0)) := mh_p2 (Or.inl rfl)
  obtain ⟨t1, e1, r1, p1⟩ := c251 (X := X) (d := d + 6) (s := mw_p s 42 2 (nI 0)) (f := f) (K := 66) (off := 0) mw_r_66 (by unfold mpx; omega) (by decide) (by decide)
  have hm1 : mh s t1 := mh_trans m0 (mh_rgn r1 (by unfold gM; omega))
  obtain ⟨t2, ⟨k1, k2, k3, k4⟩, e2⟩ := mr_forg (α := (Nat → Nat) × Int32) (γ := mw_S) (E := fun i x t => mj_exec X (d + 7) 303 58 [some (.ref 42), some (.int sd), some (.int (nI n)), some (.int (nI w)), some (.int (nI i))] [] (mw_U (mp t x.1))) (F := fun _ x => ywk Q x) (I := fun i x t => mh s t ∧ t.1 42 47 = x.2 ∧ t.1 42 2 = nI 0 ∧ hasP t 66 0 f (fun _ => True) ∧ wf x.1 (x.1 52) ∧ x.1 54 = f 54 + i) (N := n) (by
    intro i x t hi ⟨k1, k2, k3, k4, k5, k6⟩
    obtain ⟨j1, j2, -⟩ := yst_inv (sd := x.2) k5
    have e4 := c304 (X := X) (d := d + 3) (s := t) (f := x.1) k5 k2
    have hmt : mh t (mw_p t 42 47 (yst x.1 x.2).2) := mh_p2 (Or.inr (Or.inr rfl))
    obtain ⟨t3, e3, g3⟩ := c253 (X := X) (d := d + 1) (s := mw_p t 42 47 (yst x.1 x.2).2) (f := (yst x.1 x.2).1) j1 (rM_mh hq (mh_trans k1 hmt)) ho (by omega)
    refine ⟨t3, ⟨mh_trans k1 (mh_trans hmt (mh_mg g3 m34g)), ?_, ?_, ?_, ?_, ?_⟩, ?_⟩
    · rw [g3.2 42 (by unfold m34; omega), mw_peq]; rfl
    · rw [g3.2 42 (by unfold m34; omega), mw_pnj (by decide)]; exact k3
    · exact hasP_mg (fun j hj hd => by rw [mw_pne (by decide)]; exact k4 j hj hd) g3 (by unfold m34; omega)
    · unfold ywk
      dsimp only
      rw [fwk_o (by omega)]
      exact wf_wk j1 (by omega)
    · unfold ywk
      dsimp only
      rw [fwk_54]; omega
    · rw [b303_58]
      simp (disch := first | assumption | exact hf _ | omega) only [b303, b303_0, b303_14, b303_17, b303_22, b303_23, b303_32, b303_35, b303_40, b303_41, b303_50, b303_64, b303_68, b303_72, b303_78, b303_82, b303_89, b303_94, b303_98, b303_101, b303_105, b303_116, nI_add, mn_mul, mn_sub, mn_m1, mn_m8, mn_eq, mn_lt, mn_le, mn_eq0, mn_0eq, mn_lt0, mn_0lt, mn_le0, mn_0le, mn_eqm, mn_meq, mn_ltm, mn_mlt, mn_lem, mn_mle, mn_mm1, mn_mm2, mn_mm3, mn_mm4, mn_mm5, mn_mm6, mn_and, mn_or, mn_an, mn_shl, mn_shr, mn_div, mn_rem, mn_clamp, mn_in, mn_inm, mn_nz, mn_zo, mn_min, mn_max, mn_abs, mn_rfit, mn_cp, mn_les, mn_gre, mn_a127, mn_a15, mn_a1, mn_a255, mn_tn0, mn_tn0e, mn_tnr, mn_tnz, mr_get, mr_ne, mr_put, mu_ne, mu_eq, mj_bk_i, mj_bk_v, mj_bk_x, decide_eq_true_eq, decide_true, decide_false, Bool.false_eq_true, Bool.true_eq_false, reduceCtorEq, mt_le_t, mt_le_f, mt_lt_t, mt_lt_f, mt_eq_t, mt_eq_f, mt_ee, not_true_eq_false, not_false_eq_true, and_true, true_and, and_self, Nat.zero_add, Nat.add_zero, Nat.one_mul, Nat.mul_one, Nat.reduceAdd, Nat.reduceMul, Nat.reduceSub, Nat.reducePow, Nat.reduceDiv, Nat.reduceMod, ↓reduceIte, mp_h, mp_w, mp_c, mp_s, mp_d, mp_n, mp_54, mp_52, mp_55, mp_l, mp_o, mp_42, mp_45, gh_gp, gw_gp, gc_gp, mw_pne, Nat.or_zero, e4, e3]
      rfl) (a := (f, sd)) (g := mw_p t1 42 47 sd) ⟨mh_trans hm1 (mh_p2 (Or.inr (Or.inr rfl))), mw_peq, by rw [mw_pnj (by decide), r1.2 42 2 (by omega), mw_peq], fun j hj hd => by rw [mw_pne (by decide)]; exact p1 j hj hd, hw, rfl⟩ n (Nat.le_refl n)
  have hy := yrs_inv (Q := Q) (sd := sd) hw n (by omega)
  have e5 := c268 (X := X) (d := d + 6) (s := t2) (f := f) (g := (yrs Q f sd n).1) mw_r_66 (by unfold mpx; omega) (by decide) (by decide) k4.1 hy.2.2
  refine ⟨t2, ?_, k3, k1⟩
  have start : mj_call X (d + 7) 303 [.ref 42, .int sd, .int (nI n), .int (nI w)] (mw_U (mp s f)) = mj_exec X (d + 7) 303 58 [some (.ref 42), some (.int sd), some (.int (nI n)), some (.int (nI w)), some (.int (nI n))] [] (mw_U (mp t2 (yrs Q f sd n).1)) := by
    rw [b303]
    simp (disch := first | assumption | exact hf _ | omega) only [b303_0, mp_wo, c240i, i3, i4, mj_bk_i, b303_14, b303_23, b303_32, Bool.toNat_true, mn_eq0, mt_eq_f, ↓reduceIte, b303_41, e1, mj_bk_v, b303_50]
    exact e2
  rw [start, b303_58]
  unfold yan
  have h0 : w = 0 ∨ w = 1 ∨ w = 2 := by omega
  rcases h0 with rfl | rfl | rfl
  · simp (disch := first | assumption | exact hf _ | omega) only [b303, b303_0, b303_14, b303_17, b303_22, b303_23, b303_32, b303_35, b303_40, b303_41, b303_50, b303_64, b303_68, b303_72, b303_78, b303_82, b303_89, b303_94, b303_98, b303_101, b303_105, b303_116, nI_add, mn_mul, mn_sub, mn_m1, mn_m8, mn_eq, mn_lt, mn_le, mn_eq0, mn_0eq, mn_lt0, mn_0lt, mn_le0, mn_0le, mn_eqm, mn_meq, mn_ltm, mn_mlt, mn_lem, mn_mle, mn_mm1, mn_mm2, mn_mm3, mn_mm4, mn_mm5, mn_mm6, mn_and, mn_or, mn_an, mn_shl, mn_shr, mn_div, mn_rem, mn_clamp, mn_in, mn_inm, mn_nz, mn_zo, mn_min, mn_max, mn_abs, mn_rfit, mn_cp, mn_les, mn_gre, mn_a127, mn_a15, mn_a1, mn_a255, mn_tn0, mn_tn0e, mn_tnr, mn_tnz, mr_get, mr_ne, mr_put, mu_ne, mu_eq, mj_bk_i, mj_bk_v, mj_bk_x, decide_eq_true_eq, decide_true, decide_false, Bool.false_eq_true, Bool.true_eq_false, reduceCtorEq, mt_le_t, mt_le_f, mt_lt_t, mt_lt_f, mt_eq_t, mt_eq_f, mt_ee, not_true_eq_false, not_false_eq_true, and_true, true_and, and_self, Nat.zero_add, Nat.add_zero, Nat.one_mul, Nat.mul_one, Nat.reduceAdd, Nat.reduceMul, Nat.reduceSub, Nat.reducePow, Nat.reduceDiv, Nat.reduceMod, ↓reduceIte, mp_h, mp_w, mp_c, mp_s, mp_d, mp_n, mp_54, mp_52, mp_55, mp_l, mp_o, mp_42, mp_45, gh_gp, gw_gp, gc_gp, mw_pne, Nat.or_zero, e5]
  · simp (disch := first | assumption | exact hf _ | omega) only [b303, b303_0, b303_14, b303_17, b303_22, b303_23, b303_32, b303_35, b303_40, b303_41, b303_50, b303_64, b303_68, b303_72, b303_78, b303_82, b303_89, b303_94, b303_98, b303_101, b303_105, b303_116, nI_add, mn_mul, mn_sub, mn_m1, mn_m8, mn_eq, mn_lt, mn_le, mn_eq0, mn_0eq, mn_lt0, mn_0lt, mn_le0, mn_0le, mn_eqm, mn_meq, mn_ltm, mn_mlt, mn_lem, mn_mle, mn_mm1, mn_mm2, mn_mm3, mn_mm4, mn_mm5, mn_mm6, mn_and, mn_or, mn_an, mn_shl, mn_shr, mn_div, mn_rem, mn_clamp, mn_in, mn_inm, mn_nz, mn_zo, mn_min, mn_max, mn_abs, mn_rfit, mn_cp, mn_les, mn_gre, mn_a127, mn_a15, mn_a1, mn_a255, mn_tn0, mn_tn0e, mn_tnr, mn_tnz, mr_get, mr_ne, mr_put, mu_ne, mu_eq, mj_bk_i, mj_bk_v, mj_bk_x, decide_eq_true_eq, decide_true, decide_false, Bool.false_eq_true, Bool.true_eq_false, reduceCtorEq, mt_le_t, mt_le_f, mt_lt_t, mt_lt_f, mt_eq_t, mt_eq_f, mt_ee, not_true_eq_false, not_false_eq_true, and_true, true_and, and_self, Nat.zero_add, Nat.add_zero, Nat.one_mul, Nat.mul_one, Nat.reduceAdd, Nat.reduceMul, Nat.reduceSub, Nat.reducePow, Nat.reduceDiv, Nat.reduceMod, ↓reduceIte, mp_h, mp_w, mp_c, mp_s, mp_d, mp_n, mp_54, mp_52, mp_55, mp_l, mp_o, mp_42, mp_45, gh_gp, gw_gp, gc_gp, mw_pne, Nat.or_zero, c231 hy.1, e5]
  · simp (disch := first | assumption | exact hf _ | omega) only [b303, b303_0, b303_14, b303_17, b303_22, b303_23, b303_32, b303_35, b303_40, b303_41, b303_50, b303_64, b303_68, b303_72, b303_78, b303_82, b303_89, b303_94, b303_98, b303_101, b303_105, b303_116, nI_add, mn_mul, mn_sub, mn_m1, mn_m8, mn_eq, mn_lt, mn_le, mn_eq0, mn_0eq, mn_lt0, mn_0lt, mn_le0, mn_0le, mn_eqm, mn_meq, mn_ltm, mn_mlt, mn_lem, mn_mle, mn_mm1, mn_mm2, mn_mm3, mn_mm4, mn_mm5, mn_mm6, mn_and, mn_or, mn_an, mn_shl, mn_shr, mn_div, mn_rem, mn_clamp, mn_in, mn_inm, mn_nz, mn_zo, mn_min, mn_max, mn_abs, mn_rfit, mn_cp, mn_les, mn_gre, mn_a127, mn_a15, mn_a1, mn_a255, mn_tn0, mn_tn0e, mn_tnr, mn_tnz, mr_get, mr_ne, mr_put, mu_ne, mu_eq, mj_bk_i, mj_bk_v, mj_bk_x, decide_eq_true_eq, decide_true, decide_false, Bool.false_eq_true, Bool.true_eq_false, reduceCtorEq, mt_le_t, mt_le_f, mt_lt_t, mt_lt_f, mt_eq_t, mt_eq_f, mt_ee, not_true_eq_false, not_false_eq_true, and_true, true_and, and_self, Nat.zero_add, Nat.add_zero, Nat.one_mul, Nat.mul_one, Nat.reduceAdd, Nat.reduceMul, Nat.reduceSub, Nat.reducePow, Nat.reduceDiv, Nat.reduceMod, ↓reduceIte, mp_h, mp_w, mp_c, mp_s, mp_d, mp_n, mp_54, mp_52, mp_55, mp_l, mp_o, mp_42, mp_45, gh_gp, gw_gp, gc_gp, mw_pne, Nat.or_zero, c227 hy.1, e5]
end
