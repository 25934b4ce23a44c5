/-! a week, by the reference -/
def rm (t : Nat) : Int32 := if t < 10000 then nI t else if t < 10006 then -(nI (t - 9999)) else if t = 10010 then -28 else if t = 10011 then -26 else if t = 10012 then -27 else if t = 10013 then -24 else if t = 10014 then -25 else if t = 10015 then -20 else if t = 10016 then -21 else if t = 10017 then -22 else -23
def rM (s : mw_S) (Q : rQ) : Prop := Q.2.1 ≤ 700 ∧ Q.2.2.2 ≤ 700 ∧ s.1 45 1 = nI Q.2.1 ∧ s.1 45 2 = nI Q.2.2.2 ∧ (∀ j, j < Q.2.1 → s.1 52 j = rm (Q.1 j)) ∧ (∀ j, j < Q.2.2.2 → s.1 53 j = rm (Q.2.2.1 j))
theorem rM_mg {s t : mw_S} {Q : rQ} {P : Nat → Prop} (h : rM s Q) (hg : mg s t P) (h1 : ¬ P 45) (h2 : ¬ P 52) (h3 : ¬ P 53) : rM t Q := by
  unfold rM at h ⊢
  rw [hg.2 45 h1, hg.2 52 h2, hg.2 53 h3]
  exact h
theorem rm_n {t : Nat} (h : t < 10000) : rm t = nI t := if_pos h
theorem rm_v {t : Nat} (h1 : ¬ t < 10000) (h : t < 10006) : rm t = -(nI (t - 9999)) := by unfold rm; rw [if_neg h1, if_pos h]
theorem rm_20 {t : Nat} (h : t < 10000) : (nI t ≤ -20) = False := by
  apply eq_false
  rw [Int32.le_iff_toInt_le, nI_toInt (by omega), show (-20 : Int32).toInt = -20 by decide]
  omega
theorem rm_vf : ∀ j, j < 6 → (¬ (-(nI (j + 1)) ≤ -20)) ∧ -(nI (j + 1)) < 0 ∧ -1 - -(nI (j + 1)) = nI j := by decide +kernel
theorem rm_of : ∀ m, m < 8 → (rm (10011 + m) ≤ -20) ∧ ¬ (rm (10011 + m) = -28) := by decide +kernel
theorem mr_itA {α : Type} {F : Nat → α → α} {I : α → Prop} {n : Nat} {a : α} : ∀ {m : Nat}, n ≤ m → (∀ i a, i < m → I a → I (F i a)) → (∀ i a, n ≤ i → i < m → I a → F i a = a) → I a → mr_it F m a = mr_it F n a ∧ I (mr_it F m a)
  | 0, h, _, _, ha => by rw [show n = 0 by omega]; exact ⟨rfl, ha⟩
  | m + 1, h, hI, hs, ha => by
    by_cases he : n = m + 1
    · rw [he]
      exact ⟨rfl, mr_it_inv (I := fun _ a => I a) ha hI⟩
    · obtain ⟨e1, e2⟩ := mr_itA (n := n) (m := m) (by omega) (fun i a hi => hI i a (by omega)) (fun i a h1 h2 => hs i a h1 (by omega)) ha
      rw [mr_it, hs m _ (by omega) (by omega) e2]
      exact ⟨e1, e2⟩
theorem mr_itB {α : Type} {F G : Nat → α → α} {I : α → Prop} {a : α} : ∀ {n : Nat}, (∀ i a, i < n → I a → I (F i a)) → (∀ i a, i < n → I a → F i a = G i a) → I a → mr_it F n a = mr_it G n a
  | 0, _, _, _ => rfl
  | n + 1, hI, hs, ha => by
    rw [mr_it, mr_it, ← mr_itB (n := n) (fun i a hi => hI i a (by omega)) (fun i a hi => hs i a (by omega)) ha]
    exact hs n _ (by omega) (mr_it_inv (I := fun _ a => I a) ha (fun i a hi => hI i a (by omega)))
theorem mr_28 {α : Type} (G : Nat → α → α) (a : α) : mr_it G 28 a = mr_it (fun p a => mr_it (fun j a => G (fp p (p + 1 + j)) a) (7 - p) a) 8 a := rfl
theorem mr_64 {α : Type} (G : Nat → α → α) (a : α) : mr_it (fun b c => if b / 8 < b % 8 then G (fp (b / 8) (b % 8)) c else c) 64 a = mr_it G 28 a := rfl
/-- the pairs of those who are told, in their order -/
theorem pairs_n {α : Type} {G : Nat → α → α} {I : α → Prop} {n : Nat} {a : α} (hn : n ≤ 8) (hI : ∀ i a, i < 28 → I a → I (G i a)) (h0 : ∀ p q a, p < q → q < 8 → n ≤ q → I a → G (fp p q) a = a) (ha : I a) : mr_it (fun p a => mr_it (fun j a => G (fp p (p + 1 + j)) a) (n - (p + 1)) a) n a = mr_it G 28 a := by
  have hin : ∀ p, p < 8 → ∀ m, m ≤ 7 - p → ∀ a, I a → I (mr_it (fun j a => G (fp p (p + 1 + j)) a) m a) := fun p hp m hm a ha => mr_it_inv (I := fun _ a => I a) ha (fun j a hj h => hI _ _ (fp_lt hp (by omega) (by omega)) h)
  rw [mr_28, (mr_itA (n := n) (I := I) hn (fun p a hp h => hin p hp _ (Nat.le_refl _) a h) (fun p a h1 h2 h => ?_) ha).1]
  · refine (mr_itB (I := I) (fun p a hp h => hin p (by omega) _ (Nat.le_refl _) a h) (fun p a hp h => ?_) ha).symm
    exact (mr_itA (n := n - (p + 1)) (m := 7 - p) (I := I) (by omega) (fun j a hj h => hI _ _ (fp_lt (by omega) (by omega) (by omega)) h) (fun j a h1 h2 h => h0 _ _ _ (by omega) (by omega) (by omega) h) h).1
  · have := (mr_itA (F := fun j a => G (fp p (p + 1 + j)) a) (n := 0) (m := 7 - p) (I := I) (by omega) (fun j a hj h => hI _ _ (fp_lt h2 (by omega) (by omega)) h) (fun j a h3 h4 h => h0 _ _ _ (by omega) (by omega) (by omega) h) h).1
    exact this
section
variable {f : Nat → Nat} {L : Nat}
theorem rvl_p {p q : Nat} (hp : p < 8) (hq : q < 8) (hn : ¬ p = q) : rvl f (fp p q) = fun j => if j = 0 then nI (fhp f p q) else if j = 1 then nI (f p + f q) else if j = 2 then nI ((f p - f q) + (f q - f p)) else if j = 3 then nI (fn_cnt (f (56 + p)) + fn_cnt (f (56 + q))) - nI 1 else if j = 4 then nI (fcp f p q) else nI (f 54) := by
  funext j
  unfold rvl fhp fcp
  rw [if_neg hn, if_neg hn]
  rcases Nat.lt_or_ge p q with h | h
  · obtain ⟨e1, e2⟩ := fp_l h hq
    rw [e1, e2]
  · rw [fp_comm]
    obtain ⟨e1, e2⟩ := fp_l (p := q) (q := p) (by omega) hp
    rw [e1, e2, Nat.add_comm (f q) (f p), Nat.add_comm (f q - f p), Nat.add_comm (fn_cnt (f (56 + q)))]
theorem fst1_n {Q : rQ} (hw : wf f L) {p q : Nat} (hpq : p < q) (hq : q < 8) (hn : f 55 ≤ q) : fst1 Q f (fp p q) = f := by
  unfold fst1
  have := fhp_n hw (show p < 8 by omega) hq hn
  unfold fhp at this
  rw [if_neg (by omega)] at this
  rw [if_neg (by omega)]
end
section
variable {X : mj_X} {d : Nat} {s : mw_S} {f : Nat → Nat} {L : Nat} {Q : rQ}
theorem c247 {t : Nat} {a b : Int32} {w : mw_S} (h1 : 10011 ≤ t) (h2 : t ≤ 10018) : mj_call X d 247 [.int (rm t), .int a, .int b] (mw_U w) = some (.inl (some (.int (rj t a b))), mw_U w) := by
  have hc : t = 10011 ∨ t = 10012 ∨ t = 10013 ∨ t = 10014 ∨ t = 10015 ∨ t = 10016 ∨ t = 10017 ∨ t = 10018 := by omega
  rw [b247, b247_0]
  rcases hc with rfl | rfl | rfl | rfl | rfl | rfl | rfl | rfl
  · rw [show rm 10011 = -26 by decide, mw_tl_at (t := mj_exec X d 247 90 [some (.int (-26)), some (.int a), some (.int b)] [] (mw_U w)) (by decide) rfl]
    unfold rj
    by_cases ha : a = 0 <;> by_cases hb : b = 0 <;> simp only [b247, b247_0, b247_44, b247_48, b247_52, b247_56, b247_60, b247_64, b247_67, b247_68, b247_73, b247_77, b247_78, b247_79, b247_84, b247_88, b247_89, b247_90, b247_94, b247_98, b247_102, b247_103, b247_104, b247_108, b247_112, b247_116, b247_117, if_pos, if_neg, ha, hb, if_true, if_false]
  · rw [show rm 10012 = -27 by decide, mw_tl_lt (by decide)]
    unfold rj
    by_cases ha : a = 0 <;> by_cases hb : b = 0 <;> simp [b247, b247_0, b247_44, b247_48, b247_52, b247_56, b247_60, b247_64, b247_67, b247_68, b247_73, b247_77, b247_78, b247_79, b247_84, b247_88, b247_89, b247_90, b247_94, b247_98, b247_102, b247_103, b247_104, b247_108, b247_112, b247_116, b247_117, ha, hb]
  · rw [show rm 10013 = -24 by decide, mw_tl_at (t := mj_exec X d 247 68 [some (.int (-24)), some (.int a), some (.int b)] [] (mw_U w)) (by decide) rfl]
    unfold rj
    by_cases ha : b ≤ a <;> simp [b247, b247_0, b247_44, b247_48, b247_52, b247_56, b247_60, b247_64, b247_67, b247_68, b247_73, b247_77, b247_78, b247_79, b247_84, b247_88, b247_89, b247_90, b247_94, b247_98, b247_102, b247_103, b247_104, b247_108, b247_112, b247_116, b247_117, ha]
  · rw [show rm 10014 = -25 by decide, mw_tl_at (t := mj_exec X d 247 79 [some (.int (-25)), some (.int a), some (.int b)] [] (mw_U w)) (by decide) rfl]
    unfold rj
    by_cases ha : a = b <;> simp [b247, b247_0, b247_44, b247_48, b247_52, b247_56, b247_60, b247_64, b247_67, b247_68, b247_73, b247_77, b247_78, b247_79, b247_84, b247_88, b247_89, b247_90, b247_94, b247_98, b247_102, b247_103, b247_104, b247_108, b247_112, b247_116, b247_117, ha]
  · rw [show rm 10015 = -20 by decide, mw_tl_at (t := mj_exec X d 247 44 [some (.int (-20)), some (.int a), some (.int b)] [] (mw_U w)) (by decide) rfl]
    rw [b247_44]; rfl
  · rw [show rm 10016 = -21 by decide, mw_tl_at (t := mj_exec X d 247 48 [some (.int (-21)), some (.int a), some (.int b)] [] (mw_U w)) (by decide) rfl]
    rw [b247_48]; rfl
  · rw [show rm 10017 = -22 by decide, mw_tl_at (t := mj_exec X d 247 52 [some (.int (-22)), some (.int a), some (.int b)] [] (mw_U w)) (by decide) rfl]
    rw [b247_52]; rfl
  · rw [show rm 10018 = -23 by decide, mw_tl_at (t := mj_exec X d 247 56 [some (.int (-23)), some (.int a), some (.int b)] [] (mw_U w)) (by decide) rfl]
    unfold rj
    by_cases hb : b = 0
    · simp [b247, b247_0, b247_44, b247_48, b247_52, b247_56, b247_60, b247_64, b247_67, b247_68, b247_73, b247_77, b247_78, b247_79, b247_84, b247_88, b247_89, b247_90, b247_94, b247_98, b247_102, b247_103, b247_104, b247_108, b247_112, b247_116, b247_117, hb]
    · have hz : mw_nz b = true := decide_eq_true hb
      simp [b247, b247_0, b247_44, b247_48, b247_52, b247_56, b247_60, b247_64, b247_67, b247_68, b247_73, b247_77, b247_78, b247_79, b247_84, b247_88, b247_89, b247_90, b247_94, b247_98, b247_102, b247_103, b247_104, b247_108, b247_112, b247_116, b247_117, hb, hz]
theorem c246 {t : mw_S} {K n : Nat} {c : Nat → Nat} {v : Nat → Int32} (hK : mw_rw K = some (.int, 1400)) (hK2 : ¬ K = 64) (hn : n ≤ 700) (hh : rh c n = some 1) (hc : ∀ j, j < n → t.1 K j = rm (c j)) (hv : ∀ j, j < 6 → t.1 63 j = v j) : ∃ t', mj_call X (d + 1) 246 [.ref 42, .ref K, .int (nI n)] (mw_U t) = some (.inl (some (.int (rv v c n))), mw_U t') ∧ mg t t' (fun x => x = 64) := by
  have r64 := mw_r_64
  obtain ⟨g, ⟨hsk, hmg⟩, e⟩ := mr_forg (α := Unit) (γ := mw_S × Option Value) (E := fun i _ g => mj_exec X (d + 1) 246 5 [some (.ref 42), some (.ref K), some (.int (nI n)), some (.int (nI (rst v c i).length)), some (.int (nI i)), g.2] [] (mw_U g.1)) (F := fun _ a => a) (I := fun i _ g => sk 64 g.1 (rst v c i) ∧ mg t g.1 (fun x => x = 64)) (N := n) (by
    intro i _ g hi ⟨hsk, hmg⟩
    obtain ⟨g, l5⟩ := g
    obtain ⟨h0, e0⟩ := rh_le hh (show i ≤ n by omega)
    obtain ⟨h1, e1⟩ := rh_le hh (show i + 1 ≤ n by omega)
    have hlen := rst_len (v := v) e0
    rw [rh, e0, Option.bind_some] at e1
    have hst : g.1 K i = rm (c i) := by
      rw [hmg.2 K hK2]; exact hc i hi
    have hvv : ∀ j, j < 6 → g.1 63 j = v j := by
      intro j hj
      rw [hmg.2 63 (by decide)]; exact hv j hj
    dsimp only at hsk hmg ⊢
    rw [b246_5 hK]
    unfold rh1 at e1
    split at e1
    · next h6 =>
      split at e1
      · next h40 =>
        have es : (rst v c (i + 1)) = (if c i < 10000 then nI (c i) else v (c i - 10000)) :: rst v c i := by
          rw [rst]; unfold rs
          split
          · rfl
          · first | rfl | rw [if_pos h6]
        refine ⟨(mw_p g 64 h0 (if c i < 10000 then nI (c i) else v (c i - 10000)), some (.int (rm (c i)))), ⟨?_, mg_p hmg rfl⟩, ?_⟩
        · rw [es, ← hlen]; exact sk_push hsk
        · rw [es, List.length_cons, hlen]
          by_cases hn : c i < 10000
          · simp (disch := first | assumption | exact hf _ | omega) only [b246, b246_0, b246_11, b246_24, b246_34, b246_39, b246_48, b246_55, b246_62, b246_80, b246_84, b246_85, b246_89, b246_118, b246_119, b246_125, nI_add, mn_mul, mn_sub, mn_m1, mn_m8, mn_eq, mn_lt, mn_le, mn_eq0, mn_0eq, mn_lt0, mn_0lt, mn_le0, mn_0le, mn_eqm, mn_meq, mn_ltm, mn_mlt, mn_lem, mn_mle, mn_mm1, mn_mm2, mn_mm3, mn_mm4, mn_mm5, mn_mm6, mn_and, mn_or, mn_an, mn_shl, mn_shr, mn_div, mn_rem, mn_clamp, mn_in, mn_inm, mn_nz, mn_zo, mn_min, mn_max, mn_abs, mn_rfit, mn_cp, mn_les, mn_gre, mn_a127, mn_a15, mn_a1, mn_a255, mn_tn0, mn_tn0e, mn_tnr, mn_tnz, mr_get, mr_ne, mr_put, mu_ne, mu_eq, mj_bk_i, mj_bk_v, mj_bk_x, decide_eq_true_eq, decide_true, decide_false, Bool.false_eq_true, Bool.true_eq_false, reduceCtorEq, mt_le_t, mt_le_f, mt_lt_t, mt_lt_f, mt_eq_t, mt_eq_f, mt_ee, not_true_eq_false, not_false_eq_true, and_true, true_and, and_self, Nat.zero_add, Nat.add_zero, Nat.one_mul, Nat.mul_one, Nat.reduceAdd, Nat.reduceMul, Nat.reduceSub, Nat.reducePow, Nat.reduceDiv, Nat.reduceMod, ↓reduceIte, hst, rm_n hn, rm_20 hn, if_pos hn]
          · obtain ⟨q1, q2, q3⟩ := rm_vf (c i - 10000) (by omega)
            rw [show c i - 10000 + 1 = c i - 9999 by omega] at q1 q2 q3
            simp (disch := first | assumption | exact hf _ | omega) only [b246, b246_0, b246_11, b246_24, b246_34, b246_39, b246_48, b246_55, b246_62, b246_80, b246_84, b246_85, b246_89, b246_118, b246_119, b246_125, nI_add, mn_mul, mn_sub, mn_m1, mn_m8, mn_eq, mn_lt, mn_le, mn_eq0, mn_0eq, mn_lt0, mn_0lt, mn_le0, mn_0le, mn_eqm, mn_meq, mn_ltm, mn_mlt, mn_lem, mn_mle, mn_mm1, mn_mm2, mn_mm3, mn_mm4, mn_mm5, mn_mm6, mn_and, mn_or, mn_an, mn_shl, mn_shr, mn_div, mn_rem, mn_clamp, mn_in, mn_inm, mn_nz, mn_zo, mn_min, mn_max, mn_abs, mn_rfit, mn_cp, mn_les, mn_gre, mn_a127, mn_a15, mn_a1, mn_a255, mn_tn0, mn_tn0e, mn_tnr, mn_tnz, mr_get, mr_ne, mr_put, mu_ne, mu_eq, mj_bk_i, mj_bk_v, mj_bk_x, decide_eq_true_eq, decide_true, decide_false, Bool.false_eq_true, Bool.true_eq_false, reduceCtorEq, mt_le_t, mt_le_f, mt_lt_t, mt_lt_f, mt_eq_t, mt_eq_f, mt_ee, not_true_eq_false, not_false_eq_true, and_true, true_and, and_self, Nat.zero_add, Nat.add_zero, Nat.one_mul, Nat.mul_one, Nat.reduceAdd, Nat.reduceMul, Nat.reduceSub, Nat.reducePow, Nat.reduceDiv, Nat.reduceMod, ↓reduceIte, hst, rm_v hn h6, q1, q2, q3, if_neg hn, hvv _ (show c i - 10000 < 6 by omega)]
      · cases e1
    · next h6 =>
      split at e1
      · next ht =>
        split at e1
        · next h1' =>
          cases hr : rst v c i with
          | nil => rw [hr] at hlen; simp only [List.length_nil] at hlen; omega
          | cons x r =>
            rw [hr] at hlen hsk
            have hl2 : h0 = r.length + 1 := by rw [← hlen, List.length_cons]
            have htop := sk_top hsk
            have es : (rst v c (i + 1)) = (if x = 0 then nI 1 else nI 0) :: r := by
              rw [rst]; unfold rs
              rw [if_neg (by omega), if_neg h6, if_pos ht, hr]
            have hr7 : rm (c i) = -28 := by rw [ht]; decide
            have hb : r.length < 40 := by
              have : h0 ≤ 40 := rh_40 e0
              omega
            refine ⟨(mw_p g 64 r.length (if x = 0 then nI 1 else nI 0), some (.int (-28))), ⟨?_, mg_p hmg rfl⟩, ?_⟩
            · rw [es]; exact sk_set hsk
            · simp only [es, List.length_cons]
              have q1 : ((-28 : Int32) ≤ -20) = True := by decide
              by_cases hx : x = 0
              · simp (disch := first | assumption | exact hf _ | omega) only [b246, b246_0, b246_11, b246_24, b246_34, b246_39, b246_48, b246_55, b246_62, b246_80, b246_84, b246_85, b246_89, b246_118, b246_119, b246_125, nI_add, mn_mul, mn_sub, mn_m1, mn_m8, mn_eq, mn_lt, mn_le, mn_eq0, mn_0eq, mn_lt0, mn_0lt, mn_le0, mn_0le, mn_eqm, mn_meq, mn_ltm, mn_mlt, mn_lem, mn_mle, mn_mm1, mn_mm2, mn_mm3, mn_mm4, mn_mm5, mn_mm6, mn_and, mn_or, mn_an, mn_shl, mn_shr, mn_div, mn_rem, mn_clamp, mn_in, mn_inm, mn_nz, mn_zo, mn_min, mn_max, mn_abs, mn_rfit, mn_cp, mn_les, mn_gre, mn_a127, mn_a15, mn_a1, mn_a255, mn_tn0, mn_tn0e, mn_tnr, mn_tnz, mr_get, mr_ne, mr_put, mu_ne, mu_eq, mj_bk_i, mj_bk_v, mj_bk_x, decide_eq_true_eq, decide_true, decide_false, Bool.false_eq_true, Bool.true_eq_false, reduceCtorEq, mt_le_t, mt_le_f, mt_lt_t, mt_lt_f, mt_eq_t, mt_eq_f, mt_ee, not_true_eq_false, not_false_eq_true, and_true, true_and, and_self, Nat.zero_add, Nat.add_zero, Nat.one_mul, Nat.mul_one, Nat.reduceAdd, Nat.reduceMul, Nat.reduceSub, Nat.reducePow, Nat.reduceDiv, Nat.reduceMod, ↓reduceIte, hst, hr7, q1, htop, hx, Nat.add_sub_cancel]
              · simp (disch := first | assumption | exact hf _ | omega) only [b246, b246_0, b246_11, b246_24, b246_34, b246_39, b246_48, b246_55, b246_62, b246_80, b246_84, b246_85, b246_89, b246_118, b246_119, b246_125, nI_add, mn_mul, mn_sub, mn_m1, mn_m8, mn_eq, mn_lt, mn_le, mn_eq0, mn_0eq, mn_lt0, mn_0lt, mn_le0, mn_0le, mn_eqm, mn_meq, mn_ltm, mn_mlt, mn_lem, mn_mle, mn_mm1, mn_mm2, mn_mm3, mn_mm4, mn_mm5, mn_mm6, mn_and, mn_or, mn_an, mn_shl, mn_shr, mn_div, mn_rem, mn_clamp, mn_in, mn_inm, mn_nz, mn_zo, mn_min, mn_max, mn_abs, mn_rfit, mn_cp, mn_les, mn_gre, mn_a127, mn_a15, mn_a1, mn_a255, mn_tn0, mn_tn0e, mn_tnr, mn_tnz, mr_get, mr_ne, mr_put, mu_ne, mu_eq, mj_bk_i, mj_bk_v, mj_bk_x, decide_eq_true_eq, decide_true, decide_false, Bool.false_eq_true, Bool.true_eq_false, reduceCtorEq, mt_le_t, mt_le_f, mt_lt_t, mt_lt_f, mt_eq_t, mt_eq_f, mt_ee, not_true_eq_false, not_false_eq_true, and_true, true_and, and_self, Nat.zero_add, Nat.add_zero, Nat.one_mul, Nat.mul_one, Nat.reduceAdd, Nat.reduceMul, Nat.reduceSub, Nat.reducePow, Nat.reduceDiv, Nat.reduceMod, ↓reduceIte, hst, hr7, q1, htop, hx, Nat.add_sub_cancel]
        · cases e1
      · next ht =>
        split at e1
        · next h1' =>
          cases hr : rst v c i with
          | nil => rw [hr] at hlen; simp only [List.length_nil] at hlen; omega
          | cons x r' => cases r' with
            | nil => rw [hr] at hlen; simp only [List.length_nil, List.length_cons] at hlen; omega
            | cons y r =>
              rw [hr] at hlen hsk
              have hl2 : h0 = r.length + 2 := by rw [← hlen, List.length_cons, List.length_cons]
              have htop := sk_top hsk
              have htop2 := sk_top (sk_pop hsk)
              rw [List.length_cons] at htop
              have es : (rst v c (i + 1)) = rj (c i) y x :: r := by
                rw [rst]; unfold rs
                rw [if_neg (by omega), if_neg h6, if_neg ht, hr]
              have hb : r.length + 2 ≤ 40 := by
                have : h0 ≤ 40 := rh_40 e0
                omega
              obtain ⟨q1, q3⟩ := rm_of (c i - 10011) (by omega)
              rw [show 10011 + (c i - 10011) = c i by omega] at q1 q3
              refine ⟨(mw_p g 64 r.length (rj (c i) y x), some (.int (rm (c i)))), ⟨?_, mg_p hmg rfl⟩, ?_⟩
              · rw [es]; exact sk_set (sk_pop hsk)
              · simp only [es, List.length_cons]
                have n1 : r.length + 2 - 1 = r.length + 1 := rfl
                have n2 : r.length + 1 - 1 = r.length := rfl
                simp (disch := first | assumption | exact hf _ | omega) only [b246, b246_0, b246_11, b246_24, b246_34, b246_39, b246_48, b246_55, b246_62, b246_80, b246_84, b246_85, b246_89, b246_118, b246_119, b246_125, nI_add, mn_mul, mn_sub, mn_m1, mn_m8, mn_eq, mn_lt, mn_le, mn_eq0, mn_0eq, mn_lt0, mn_0lt, mn_le0, mn_0le, mn_eqm, mn_meq, mn_ltm, mn_mlt, mn_lem, mn_mle, mn_mm1, mn_mm2, mn_mm3, mn_mm4, mn_mm5, mn_mm6, mn_and, mn_or, mn_an, mn_shl, mn_shr, mn_div, mn_rem, mn_clamp, mn_in, mn_inm, mn_nz, mn_zo, mn_min, mn_max, mn_abs, mn_rfit, mn_cp, mn_les, mn_gre, mn_a127, mn_a15, mn_a1, mn_a255, mn_tn0, mn_tn0e, mn_tnr, mn_tnz, mr_get, mr_ne, mr_put, mu_ne, mu_eq, mj_bk_i, mj_bk_v, mj_bk_x, decide_eq_true_eq, decide_true, decide_false, Bool.false_eq_true, Bool.true_eq_false, reduceCtorEq, mt_le_t, mt_le_f, mt_lt_t, mt_lt_f, mt_eq_t, mt_eq_f, mt_ee, not_true_eq_false, not_false_eq_true, and_true, true_and, and_self, Nat.zero_add, Nat.add_zero, Nat.one_mul, Nat.mul_one, Nat.reduceAdd, Nat.reduceMul, Nat.reduceSub, Nat.reducePow, Nat.reduceDiv, Nat.reduceMod, ↓reduceIte, hst, q1, q3, htop, htop2, c247 h1'.1 h1'.2.1, n1, n2, Nat.add_assoc]
        · cases e1) (a := ()) (g := (t, none)) ⟨sk_nil, mg_refl⟩ n (Nat.le_refl n)
  obtain ⟨g, l5⟩ := g
  have hlen := rst_len (v := v) hh
  cases hr : rst v c n with
  | nil => rw [hr] at hlen; simp only [List.length_nil] at hlen; omega
  | cons x r =>
    rw [hr] at hlen
    have hr0 : r.length = 0 := by simp only [List.length_cons] at hlen; omega
    dsimp only at hsk hmg e
    rw [hr] at hsk e
    have htop := sk_top hsk
    rw [hr0] at htop
    refine ⟨g, ?_, hmg⟩
    rw [b246, b246_0 hK]
    refine Eq.trans e ?_
    rw [b246_5 hK, List.length_cons, hr0]
    unfold rv
    rw [hr]
    simp (disch := first | assumption | exact hf _ | omega) only [b246, b246_0, b246_11, b246_24, b246_34, b246_39, b246_48, b246_55, b246_62, b246_80, b246_84, b246_85, b246_89, b246_118, b246_119, b246_125, nI_add, mn_mul, mn_sub, mn_m1, mn_m8, mn_eq, mn_lt, mn_le, mn_eq0, mn_0eq, mn_lt0, mn_0lt, mn_le0, mn_0le, mn_eqm, mn_meq, mn_ltm, mn_mlt, mn_lem, mn_mle, mn_mm1, mn_mm2, mn_mm3, mn_mm4, mn_mm5, mn_mm6, mn_and, mn_or, mn_an, mn_shl, mn_shr, mn_div, mn_rem, mn_clamp, mn_in, mn_inm, mn_nz, mn_zo, mn_min, mn_max, mn_abs, mn_rfit, mn_cp, mn_les, mn_gre, mn_a127, mn_a15, mn_a1, mn_a255, mn_tn0, mn_tn0e, mn_tnr, mn_tnz, mr_get, mr_ne, mr_put, mu_ne, mu_eq, mj_bk_i, mj_bk_v, mj_bk_x, decide_eq_true_eq, decide_true, decide_false, Bool.false_eq_true, Bool.true_eq_false, reduceCtorEq, mt_le_t, mt_le_f, mt_lt_t, mt_lt_f, mt_eq_t, mt_eq_f, mt_ee, not_true_eq_false, not_false_eq_true, and_true, true_and, and_self, Nat.zero_add, Nat.add_zero, Nat.one_mul, Nat.mul_one, Nat.reduceAdd, Nat.reduceMul, Nat.reduceSub, Nat.reducePow, Nat.reduceDiv, Nat.reduceMod, ↓reduceIte, htop, List.headD_cons, Nat.sub_self]
theorem c245 (hw : wf f L) {p q : Nat} (hp : p < 8) (hq : q < 8) (hn : ¬ p = q) : ∃ t, mj_call X (d + 3) 245 [.ref 42, .int (nI p), .int (nI q)] (mw_U (mp s f)) = some (.inl none, mw_U (mp t f)) ∧ mg s t (fun x => x = 63) ∧ ∀ j, j < 6 → t.1 63 j = rvl f (fp p q) j := by
  have r63 := mw_r_63
  have hf := wf_lt hw
  have hg := gp_lt hp hq
  have hn1 := wf_p hw hp
  have hn2 := wf_p hw hq
  have ht1 := wf_t hw hp
  have ht2 := wf_t hw hq
  rw [rvl_p hp hq hn]
  refine ⟨mw_p (mw_p (mw_p (mw_p (mw_p (mw_p s 63 0 (nI (fhp f p q))) 63 1 (nI (f p + f q))) 63 2 (nI ((f p - f q) + (f q - f p)))) 63 3 (nI (fn_cnt (f (56 + p)) + fn_cnt (f (56 + q))) - nI 1)) 63 4 (nI (fcp f p q))) 63 5 (nI (f 54)), ?_, mg_p (mg_p (mg_p (mg_p (mg_p (mg_p mg_refl rfl) rfl) rfl) rfl) rfl) rfl, ?_⟩
  · simp (disch := first | assumption | exact hf _ | omega) only [b245, b245_0, b245_5, b245_69, b245_72, b245_77, b245_80, nI_add, mn_mul, mn_sub, mn_m1, mn_m8, mn_eq, mn_lt, mn_le, mn_eq0, mn_0eq, mn_lt0, mn_0lt, mn_le0, mn_0le, mn_eqm, mn_meq, mn_ltm, mn_mlt, mn_lem, mn_mle, mn_mm1, mn_mm2, mn_mm3, mn_mm4, mn_mm5, mn_mm6, mn_and, mn_or, mn_an, mn_shl, mn_shr, mn_div, mn_rem, mn_clamp, mn_in, mn_inm, mn_nz, mn_zo, mn_min, mn_max, mn_abs, mn_rfit, mn_cp, mn_les, mn_gre, mn_a127, mn_a15, mn_a1, mn_a255, mn_tn0, mn_tn0e, mn_tnr, mn_tnz, mr_get, mr_ne, mr_put, mu_ne, mu_eq, mj_bk_i, mj_bk_v, mj_bk_x, decide_eq_true_eq, decide_true, decide_false, Bool.false_eq_true, Bool.true_eq_false, reduceCtorEq, mt_le_t, mt_le_f, mt_lt_t, mt_lt_f, mt_eq_t, mt_eq_f, mt_ee, not_true_eq_false, not_false_eq_true, and_true, true_and, and_self, Nat.zero_add, Nat.add_zero, Nat.one_mul, Nat.mul_one, Nat.reduceAdd, Nat.reduceMul, Nat.reduceSub, Nat.reducePow, Nat.reduceDiv, Nat.reduceMod, ↓reduceIte, mp_h, mp_w, mp_c, mp_s, mp_d, mp_n, mp_54, mp_52, mp_55, mp_l, mp_o, mp_42, mp_45, gh_gp, gw_gp, gc_gp, mw_pne, Nat.or_zero, c222 hp hq, c228 hw hp, c228 hw hq, c230 (show f (56 + p) < 1024 by omega), c230 (show f (56 + q) < 1024 by omega), mp_wo]
  · intro j hj
    have : j = 0 ∨ j = 1 ∨ j = 2 ∨ j = 3 ∨ j = 4 ∨ j = 5 := by omega
    rcases this with rfl | rfl | rfl | rfl | rfl | rfl <;> rfl
def m34 (x : Nat) : Prop := x = 63 ∨ x = 64
theorem m34x : ∀ a, m34 a → mpx a := by
  intro a h
  unfold mpx
  rcases h with h | h <;> omega
theorem c254 (hw : wf f L) (hq : rM s Q) (ho : rOK Q) {p q : Nat} (hp : p < 8) (hq8 : q < 8) (hn : ¬ p = q) : ∃ t, mj_call X (d + 4) 254 [.ref 42, .int (nI p), .int (nI q)] (mw_U (mp s f)) = some (.inl (some (.int (rch Q (rvl f (fp p q))))), mw_U (mp t f)) ∧ mg s t m34 := by
  obtain ⟨q1, q2, q3, q4, q5, q6⟩ := hq
  have hn1 := wf_p hw hp
  have hn2 := wf_p hw hq8
  have v1 : rvl f (fp p q) 1 = nI (f p + f q) := by rw [rvl_p hp hq8 hn]; rfl
  unfold rch
  rw [v1]
  by_cases h : Q.2.1 = 0
  · refine ⟨s, ?_, mg_refl⟩
    have w1 : mw_max (-9) (nI (min 9 1)) = nI 1 := by decide
    have w2 : mw_max (-9) (mw_min (nI 9) (-1)) = -1 := by decide
    by_cases h2 : f p + f q ≤ 9
    · simp (disch := first | assumption | exact hf _ | omega) only [b254, b254_0, b254_18, b254_22, b254_23, b254_33, b254_39, b254_53, b254_54, nI_add, mn_mul, mn_sub, mn_m1, mn_m8, mn_eq, mn_lt, mn_le, mn_eq0, mn_0eq, mn_lt0, mn_0lt, mn_le0, mn_0le, mn_eqm, mn_meq, mn_ltm, mn_mlt, mn_lem, mn_mle, mn_mm1, mn_mm2, mn_mm3, mn_mm4, mn_mm5, mn_mm6, mn_and, mn_or, mn_an, mn_shl, mn_shr, mn_div, mn_rem, mn_clamp, mn_in, mn_inm, mn_nz, mn_zo, mn_min, mn_max, mn_abs, mn_rfit, mn_cp, mn_les, mn_gre, mn_a127, mn_a15, mn_a1, mn_a255, mn_tn0, mn_tn0e, mn_tnr, mn_tnz, mr_get, mr_ne, mr_put, mu_ne, mu_eq, mj_bk_i, mj_bk_v, mj_bk_x, decide_eq_true_eq, decide_true, decide_false, Bool.false_eq_true, Bool.true_eq_false, reduceCtorEq, mt_le_t, mt_le_f, mt_lt_t, mt_lt_f, mt_eq_t, mt_eq_f, mt_ee, not_true_eq_false, not_false_eq_true, and_true, true_and, and_self, Nat.zero_add, Nat.add_zero, Nat.one_mul, Nat.mul_one, Nat.reduceAdd, Nat.reduceMul, Nat.reduceSub, Nat.reducePow, Nat.reduceDiv, Nat.reduceMod, ↓reduceIte, mp_h, mp_w, mp_c, mp_s, mp_d, mp_n, mp_54, mp_52, mp_55, mp_l, mp_o, mp_42, mp_45, gh_gp, gw_gp, gc_gp, mw_pne, Nat.or_zero, q3, h, h2, w2]
    · simp (disch := first | assumption | exact hf _ | omega) only [b254, b254_0, b254_18, b254_22, b254_23, b254_33, b254_39, b254_53, b254_54, nI_add, mn_mul, mn_sub, mn_m1, mn_m8, mn_eq, mn_lt, mn_le, mn_eq0, mn_0eq, mn_lt0, mn_0lt, mn_le0, mn_0le, mn_eqm, mn_meq, mn_ltm, mn_mlt, mn_lem, mn_mle, mn_mm1, mn_mm2, mn_mm3, mn_mm4, mn_mm5, mn_mm6, mn_and, mn_or, mn_an, mn_shl, mn_shr, mn_div, mn_rem, mn_clamp, mn_in, mn_inm, mn_nz, mn_zo, mn_min, mn_max, mn_abs, mn_rfit, mn_cp, mn_les, mn_gre, mn_a127, mn_a15, mn_a1, mn_a255, mn_tn0, mn_tn0e, mn_tnr, mn_tnz, mr_get, mr_ne, mr_put, mu_ne, mu_eq, mj_bk_i, mj_bk_v, mj_bk_x, decide_eq_true_eq, decide_true, decide_false, Bool.false_eq_true, Bool.true_eq_false, reduceCtorEq, mt_le_t, mt_le_f, mt_lt_t, mt_lt_f, mt_eq_t, mt_eq_f, mt_ee, not_true_eq_false, not_false_eq_true, and_true, true_and, and_self, Nat.zero_add, Nat.add_zero, Nat.one_mul, Nat.mul_one, Nat.reduceAdd, Nat.reduceMul, Nat.reduceSub, Nat.reducePow, Nat.reduceDiv, Nat.reduceMod, ↓reduceIte, mp_h, mp_w, mp_c, mp_s, mp_d, mp_n, mp_54, mp_52, mp_55, mp_l, mp_o, mp_42, mp_45, gh_gp, gw_gp, gc_gp, mw_pne, Nat.or_zero, q3, h, h2, w1]
  · obtain ⟨t1, e1, g1, vv⟩ := c245 (X := X) (d := d) (s := s) hw hp hq8 hn
    have q5' : ∀ j, j < Q.2.1 → (mp t1 f).1 52 j = rm (Q.1 j) := fun j hj => by rw [mp_o (by omega), g1.2 52 (by decide)]; exact q5 j hj
    have q3' : t1.1 45 1 = nI Q.2.1 := by rw [g1.2 45 (by decide)]; exact q3
    obtain ⟨t2, e2, g2⟩ := c246 (X := X) (d := d + 2) (t := mp t1 f) (v := rvl f (fp p q)) mw_r_52 (by decide) q1 (ho.1 (by omega)) q5' (fun j hj => by rw [mp_o (by omega)]; exact vv j hj)
    obtain ⟨t3, rfl, g3⟩ := mg_mp g2 (fun a h => m34x a (Or.inr h))
    refine ⟨t3, ?_, mg_trans (mg_mono g1 (fun a h => Or.inl h)) (mg_mono g3 (fun a h => Or.inr h))⟩
    have e0 : ∀ l, (mj_exec X (d + 4) 254 33 [some (.ref 42), some (.int (nI p)), some (.int (nI q)), l] [] (mw_U (mp s f))) = some (.inl (some (.int (mw_max (-9) (mw_min (nI 9) (rv (rvl f (fp p q)) Q.1 Q.2.1))))), mw_U (mp t3 f)) ∨ ∀ x, l ≠ some (.int x) := by
      intro l
      cases l with
      | none => right; intro x hx; cases hx
      | some v => cases v with
        | int x =>
          left
          simp (disch := first | assumption | exact hf _ | omega) only [b254, b254_0, b254_18, b254_22, b254_23, b254_33, b254_39, b254_53, b254_54, nI_add, mn_mul, mn_sub, mn_m1, mn_m8, mn_eq, mn_lt, mn_le, mn_eq0, mn_0eq, mn_lt0, mn_0lt, mn_le0, mn_0le, mn_eqm, mn_meq, mn_ltm, mn_mlt, mn_lem, mn_mle, mn_mm1, mn_mm2, mn_mm3, mn_mm4, mn_mm5, mn_mm6, mn_and, mn_or, mn_an, mn_shl, mn_shr, mn_div, mn_rem, mn_clamp, mn_in, mn_inm, mn_nz, mn_zo, mn_min, mn_max, mn_abs, mn_rfit, mn_cp, mn_les, mn_gre, mn_a127, mn_a15, mn_a1, mn_a255, mn_tn0, mn_tn0e, mn_tnr, mn_tnz, mr_get, mr_ne, mr_put, mu_ne, mu_eq, mj_bk_i, mj_bk_v, mj_bk_x, decide_eq_true_eq, decide_true, decide_false, Bool.false_eq_true, Bool.true_eq_false, reduceCtorEq, mt_le_t, mt_le_f, mt_lt_t, mt_lt_f, mt_eq_t, mt_eq_f, mt_ee, not_true_eq_false, not_false_eq_true, and_true, true_and, and_self, Nat.zero_add, Nat.add_zero, Nat.one_mul, Nat.mul_one, Nat.reduceAdd, Nat.reduceMul, Nat.reduceSub, Nat.reducePow, Nat.reduceDiv, Nat.reduceMod, ↓reduceIte, mp_h, mp_w, mp_c, mp_s, mp_d, mp_n, mp_54, mp_52, mp_55, mp_l, mp_o, mp_42, mp_45, gh_gp, gw_gp, gc_gp, mw_pne, Nat.or_zero, e1, q3', e2]
        | _ => right; intro x hx; cases hx
    have hpos : 0 < Q.2.1 := by omega
    by_cases h2 : f p + f q ≤ 9
    · simp (disch := first | assumption | exact hf _ | omega) only [b254, b254_0, b254_18, b254_22, b254_23, b254_33, b254_39, b254_53, b254_54, nI_add, mn_mul, mn_sub, mn_m1, mn_m8, mn_eq, mn_lt, mn_le, mn_eq0, mn_0eq, mn_lt0, mn_0lt, mn_le0, mn_0le, mn_eqm, mn_meq, mn_ltm, mn_mlt, mn_lem, mn_mle, mn_mm1, mn_mm2, mn_mm3, mn_mm4, mn_mm5, mn_mm6, mn_and, mn_or, mn_an, mn_shl, mn_shr, mn_div, mn_rem, mn_clamp, mn_in, mn_inm, mn_nz, mn_zo, mn_min, mn_max, mn_abs, mn_rfit, mn_cp, mn_les, mn_gre, mn_a127, mn_a15, mn_a1, mn_a255, mn_tn0, mn_tn0e, mn_tnr, mn_tnz, mr_get, mr_ne, mr_put, mu_ne, mu_eq, mj_bk_i, mj_bk_v, mj_bk_x, decide_eq_true_eq, decide_true, decide_false, Bool.false_eq_true, Bool.true_eq_false, reduceCtorEq, mt_le_t, mt_le_f, mt_lt_t, mt_lt_f, mt_eq_t, mt_eq_f, mt_ee, not_true_eq_false, not_false_eq_true, and_true, true_and, and_self, Nat.zero_add, Nat.add_zero, Nat.one_mul, Nat.mul_one, Nat.reduceAdd, Nat.reduceMul, Nat.reduceSub, Nat.reducePow, Nat.reduceDiv, Nat.reduceMod, ↓reduceIte, mp_h, mp_w, mp_c, mp_s, mp_d, mp_n, mp_54, mp_52, mp_55, mp_l, mp_o, mp_42, mp_45, gh_gp, gw_gp, gc_gp, mw_pne, Nat.or_zero, q3, h, h2, e1, q3', e2]
    · simp (disch := first | assumption | exact hf _ | omega) only [b254, b254_0, b254_18, b254_22, b254_23, b254_33, b254_39, b254_53, b254_54, nI_add, mn_mul, mn_sub, mn_m1, mn_m8, mn_eq, mn_lt, mn_le, mn_eq0, mn_0eq, mn_lt0, mn_0lt, mn_le0, mn_0le, mn_eqm, mn_meq, mn_ltm, mn_mlt, mn_lem, mn_mle, mn_mm1, mn_mm2, mn_mm3, mn_mm4, mn_mm5, mn_mm6, mn_and, mn_or, mn_an, mn_shl, mn_shr, mn_div, mn_rem, mn_clamp, mn_in, mn_inm, mn_nz, mn_zo, mn_min, mn_max, mn_abs, mn_rfit, mn_cp, mn_les, mn_gre, mn_a127, mn_a15, mn_a1, mn_a255, mn_tn0, mn_tn0e, mn_tnr, mn_tnz, mr_get, mr_ne, mr_put, mu_ne, mu_eq, mj_bk_i, mj_bk_v, mj_bk_x, decide_eq_true_eq, decide_true, decide_false, Bool.false_eq_true, Bool.true_eq_false, reduceCtorEq, mt_le_t, mt_le_f, mt_lt_t, mt_lt_f, mt_eq_t, mt_eq_f, mt_ee, not_true_eq_false, not_false_eq_true, and_true, true_and, and_self, Nat.zero_add, Nat.add_zero, Nat.one_mul, Nat.mul_one, Nat.reduceAdd, Nat.reduceMul, Nat.reduceSub, Nat.reducePow, Nat.reduceDiv, Nat.reduceMod, ↓reduceIte, mp_h, mp_w, mp_c, mp_s, mp_d, mp_n, mp_54, mp_52, mp_55, mp_l, mp_o, mp_42, mp_45, gh_gp, gw_gp, gc_gp, mw_pne, Nat.or_zero, q3, h, h2, e1, q3', e2]
theorem c244 (hw : wf f L) (hq : rM s Q) (ho : rOK Q) {p q : Nat} (hp : p < 8) (hq8 : q < 8) (hn : ¬ p = q) : ∃ t, mj_call X (d + 4) 244 [.ref 42, .int (nI p), .int (nI q)] (mw_U (mp s f)) = some (.inl (some (.int (nI (rcu Q (rvl f (fp p q))).toNat))), mw_U (mp t f)) ∧ mg s t m34 := by
  have r59 := mw_r_59
  obtain ⟨q1, q2, q3, q4, q5, q6⟩ := hq
  have hg := gp_lt hp hq8
  have hb := fhp_lt f p q
  have v0 : rvl f (fp p q) 0 = nI (fhp f p q) := by rw [rvl_p hp hq8 hn]; rfl
  unfold rcu
  rw [v0]
  by_cases h : Q.2.2.2 = 0
  · refine ⟨s, ?_, mg_refl⟩
    by_cases h2 : fhp f p q < 20
    · simp (disch := first | assumption | exact hf _ | omega) only [b244, b244_0, b244_9, b244_18, b244_24, b244_28, b244_29, b244_30, b244_36, b244_50, b244_53, b244_57, b244_58, nI_add, mn_mul, mn_sub, mn_m1, mn_m8, mn_eq, mn_lt, mn_le, mn_eq0, mn_0eq, mn_lt0, mn_0lt, mn_le0, mn_0le, mn_eqm, mn_meq, mn_ltm, mn_mlt, mn_lem, mn_mle, mn_mm1, mn_mm2, mn_mm3, mn_mm4, mn_mm5, mn_mm6, mn_and, mn_or, mn_an, mn_shl, mn_shr, mn_div, mn_rem, mn_clamp, mn_in, mn_inm, mn_nz, mn_zo, mn_min, mn_max, mn_abs, mn_rfit, mn_cp, mn_les, mn_gre, mn_a127, mn_a15, mn_a1, mn_a255, mn_tn0, mn_tn0e, mn_tnr, mn_tnz, mr_get, mr_ne, mr_put, mu_ne, mu_eq, mj_bk_i, mj_bk_v, mj_bk_x, decide_eq_true_eq, decide_true, decide_false, Bool.false_eq_true, Bool.true_eq_false, reduceCtorEq, mt_le_t, mt_le_f, mt_lt_t, mt_lt_f, mt_eq_t, mt_eq_f, mt_ee, not_true_eq_false, not_false_eq_true, and_true, true_and, and_self, Nat.zero_add, Nat.add_zero, Nat.one_mul, Nat.mul_one, Nat.reduceAdd, Nat.reduceMul, Nat.reduceSub, Nat.reducePow, Nat.reduceDiv, Nat.reduceMod, ↓reduceIte, mp_h, mp_w, mp_c, mp_s, mp_d, mp_n, mp_54, mp_52, mp_55, mp_l, mp_o, mp_42, mp_45, gh_gp, gw_gp, gc_gp, mw_pne, Nat.or_zero, c222 hp hq8, q4, h, h2, Bool.toNat_false]
    · simp (disch := first | assumption | exact hf _ | omega) only [b244, b244_0, b244_9, b244_18, b244_24, b244_28, b244_29, b244_30, b244_36, b244_50, b244_53, b244_57, b244_58, nI_add, mn_mul, mn_sub, mn_m1, mn_m8, mn_eq, mn_lt, mn_le, mn_eq0, mn_0eq, mn_lt0, mn_0lt, mn_le0, mn_0le, mn_eqm, mn_meq, mn_ltm, mn_mlt, mn_lem, mn_mle, mn_mm1, mn_mm2, mn_mm3, mn_mm4, mn_mm5, mn_mm6, mn_and, mn_or, mn_an, mn_shl, mn_shr, mn_div, mn_rem, mn_clamp, mn_in, mn_inm, mn_nz, mn_zo, mn_min, mn_max, mn_abs, mn_rfit, mn_cp, mn_les, mn_gre, mn_a127, mn_a15, mn_a1, mn_a255, mn_tn0, mn_tn0e, mn_tnr, mn_tnz, mr_get, mr_ne, mr_put, mu_ne, mu_eq, mj_bk_i, mj_bk_v, mj_bk_x, decide_eq_true_eq, decide_true, decide_false, Bool.false_eq_true, Bool.true_eq_false, reduceCtorEq, mt_le_t, mt_le_f, mt_lt_t, mt_lt_f, mt_eq_t, mt_eq_f, mt_ee, not_true_eq_false, not_false_eq_true, and_true, true_and, and_self, Nat.zero_add, Nat.add_zero, Nat.one_mul, Nat.mul_one, Nat.reduceAdd, Nat.reduceMul, Nat.reduceSub, Nat.reducePow, Nat.reduceDiv, Nat.reduceMod, ↓reduceIte, mp_h, mp_w, mp_c, mp_s, mp_d, mp_n, mp_54, mp_52, mp_55, mp_l, mp_o, mp_42, mp_45, gh_gp, gw_gp, gc_gp, mw_pne, Nat.or_zero, c222 hp hq8, q4, h, h2, Bool.toNat_true]
  · obtain ⟨t1, e1, g1, vv⟩ := c245 (X := X) (d := d) (s := s) hw hp hq8 hn
    have q6' : ∀ j, j < Q.2.2.2 → (mp t1 f).1 53 j = rm (Q.2.2.1 j) := fun j hj => by rw [mp_o (by omega), g1.2 53 (by decide)]; exact q6 j hj
    have q4' : t1.1 45 2 = nI Q.2.2.2 := by rw [g1.2 45 (by decide)]; exact q4
    obtain ⟨t2, e2, g2⟩ := c246 (X := X) (d := d + 2) (t := mp t1 f) (v := rvl f (fp p q)) mw_r_53 (by decide) q2 (ho.2 (by omega)) q6' (fun j hj => by rw [mp_o (by omega)]; exact vv j hj)
    obtain ⟨t3, rfl, g3⟩ := mg_mp g2 (fun a h => m34x a (Or.inr h))
    refine ⟨t3, ?_, mg_trans (mg_mono g1 (fun a h => Or.inl h)) (mg_mono g3 (fun a h => Or.inr h))⟩
    by_cases h5 : rv (rvl f (fp p q)) Q.2.2.1 Q.2.2.2 ≤ 0
    · simp (disch := first | assumption | exact hf _ | omega) only [b244, b244_0, b244_9, b244_18, b244_24, b244_28, b244_29, b244_30, b244_36, b244_50, b244_53, b244_57, b244_58, nI_add, mn_mul, mn_sub, mn_m1, mn_m8, mn_eq, mn_lt, mn_le, mn_eq0, mn_0eq, mn_lt0, mn_0lt, mn_le0, mn_0le, mn_eqm, mn_meq, mn_ltm, mn_mlt, mn_lem, mn_mle, mn_mm1, mn_mm2, mn_mm3, mn_mm4, mn_mm5, mn_mm6, mn_and, mn_or, mn_an, mn_shl, mn_shr, mn_div, mn_rem, mn_clamp, mn_in, mn_inm, mn_nz, mn_zo, mn_min, mn_max, mn_abs, mn_rfit, mn_cp, mn_les, mn_gre, mn_a127, mn_a15, mn_a1, mn_a255, mn_tn0, mn_tn0e, mn_tnr, mn_tnz, mr_get, mr_ne, mr_put, mu_ne, mu_eq, mj_bk_i, mj_bk_v, mj_bk_x, decide_eq_true_eq, decide_true, decide_false, Bool.false_eq_true, Bool.true_eq_false, reduceCtorEq, mt_le_t, mt_le_f, mt_lt_t, mt_lt_f, mt_eq_t, mt_eq_f, mt_ee, not_true_eq_false, not_false_eq_true, and_true, true_and, and_self, Nat.zero_add, Nat.add_zero, Nat.one_mul, Nat.mul_one, Nat.reduceAdd, Nat.reduceMul, Nat.reduceSub, Nat.reducePow, Nat.reduceDiv, Nat.reduceMod, ↓reduceIte, mp_h, mp_w, mp_c, mp_s, mp_d, mp_n, mp_54, mp_52, mp_55, mp_l, mp_o, mp_42, mp_45, gh_gp, gw_gp, gc_gp, mw_pne, Nat.or_zero, q4, h, e1, q4', e2, h5, Bool.toNat_false]
    · simp (disch := first | assumption | exact hf _ | omega) only [b244, b244_0, b244_9, b244_18, b244_24, b244_28, b244_29, b244_30, b244_36, b244_50, b244_53, b244_57, b244_58, nI_add, mn_mul, mn_sub, mn_m1, mn_m8, mn_eq, mn_lt, mn_le, mn_eq0, mn_0eq, mn_lt0, mn_0lt, mn_le0, mn_0le, mn_eqm, mn_meq, mn_ltm, mn_mlt, mn_lem, mn_mle, mn_mm1, mn_mm2, mn_mm3, mn_mm4, mn_mm5, mn_mm6, mn_and, mn_or, mn_an, mn_shl, mn_shr, mn_div, mn_rem, mn_clamp, mn_in, mn_inm, mn_nz, mn_zo, mn_min, mn_max, mn_abs, mn_rfit, mn_cp, mn_les, mn_gre, mn_a127, mn_a15, mn_a1, mn_a255, mn_tn0, mn_tn0e, mn_tnr, mn_tnz, mr_get, mr_ne, mr_put, mu_ne, mu_eq, mj_bk_i, mj_bk_v, mj_bk_x, decide_eq_true_eq, decide_true, decide_false, Bool.false_eq_true, Bool.true_eq_false, reduceCtorEq, mt_le_t, mt_le_f, mt_lt_t, mt_lt_f, mt_eq_t, mt_eq_f, mt_ee, not_true_eq_false, not_false_eq_true, and_true, true_and, and_self, Nat.zero_add, Nat.add_zero, Nat.one_mul, Nat.mul_one, Nat.reduceAdd, Nat.reduceMul, Nat.reduceSub, Nat.reducePow, Nat.reduceDiv, Nat.reduceMod, ↓reduceIte, mp_h, mp_w, mp_c, mp_s, mp_d, mp_n, mp_54, mp_52, mp_55, mp_l, mp_o, mp_42, mp_45, gh_gp, gw_gp, gc_gp, mw_pne, Nat.or_zero, q4, h, e1, q4', e2, h5, Bool.toNat_true]
theorem c253 (hw : wf f L) (hq : rM s Q) (ho : rOK Q) (h54 : f 54 < 2147483647) : ∃ t, mj_call X (d + 5) 253 [.ref 42] (mw_U (mp s f)) = some (.inl none, mw_U (mp t (fwk Q f))) ∧ mg s t m34 := by
  have r59 := mw_r_59
  have hn := wf_n hw
  obtain ⟨g, ⟨hwg, hn5, hmg⟩, e⟩ := mr_forg (α := Nat → Nat) (γ := mw_S × Option Value × Option Value) (E := fun i f' g => mj_exec X (d + 5) 253 2 [some (.ref 42), some (.int (nI i)), g.2.1, g.2.2] [] (mw_U (mp g.1 f'))) (F := fun a f' => mr_it (fun j f'' => fst1 Q f'' (fp a (a + 1 + j))) (f 55 - (a + 1)) f') (I := fun i f' g => wf f' L ∧ f' 55 = f 55 ∧ mg s g.1 m34) (N := f 55) (by
    intro a f' g ha ⟨hw', hn', hmg⟩
    obtain ⟨g, l2, l3⟩ := g
    dsimp only at hmg ⊢
    obtain ⟨g2, ⟨hw2, hn2, hmg2⟩, e2⟩ := mr_forg (α := Nat → Nat) (γ := mw_S × Option Value) (E := fun j f'' g => mj_exec X (d + 5) 253 16 [some (.ref 42), some (.int (nI a)), some (.int (nI (a + 1 + j))), g.2] [] (mw_U (mp g.1 f''))) (F := fun j f'' => fst1 Q f'' (fp a (a + 1 + j))) (I := fun _ f'' g => wf f'' L ∧ f'' 55 = f 55 ∧ mg s g.1 m34) (N := f 55 - (a + 1)) (by
      intro j f'' g3 hj ⟨hw3, hn3, hmg3⟩
      obtain ⟨g3, l3⟩ := g3
      dsimp only at hmg3 ⊢
      rw [show a + 1 + (j + 1) = a + 1 + j + 1 from rfl]
      have ha8 : a < 8 := by omega
      have hb8 : a + 1 + j < 8 := by omega
      have hne : ¬ a = a + 1 + j := by omega
      have hl := fp_lt ha8 hb8 hne
      have hg := gp_lt ha8 hb8
      have hb := fh_lt f'' (fp a (a + 1 + j))
      have ep : fhp f'' a (a + 1 + j) = fh f'' (fp a (a + 1 + j)) := by unfold fhp; rw [if_neg hne]
      have hk1 : fst1 Q f'' (fp a (a + 1 + j)) 55 = f 55 := by rw [fst1_o hl (by omega), hn3]
      have hw4 := wf_st1 (Q := Q) hw3 hl
      rw [b253_16]
      by_cases h0 : 0 < fh f'' (fp a (a + 1 + j))
      · obtain ⟨t4, e4, g4⟩ := c254 (X := X) (d := d) (s := g3) hw3 (rM_mg hq hmg3 (by unfold m34; omega) (by unfold m34; omega) (by unfold m34; omega)) ho ha8 hb8 hne
        have hr := rch_r Q (rvl f'' (fp a (a + 1 + j)))
        obtain ⟨n1, n2⟩ := rnh_e (h := fh f'' (fp a (a + 1 + j))) (x := rch Q (rvl f'' (fp a (a + 1 + j)))) hb hr.1 hr.2
        have n3 : min 99 ((fh f'' (fp a (a + 1 + j)) : Int) + (rch Q (rvl f'' (fp a (a + 1 + j)))).toInt).toNat = rnh Q f'' (fp a (a + 1 + j)) := rfl
        rw [n3] at n1 n2
        have h99 := rnh_lt Q f'' (fp a (a + 1 + j))
        have hm4 := mg_trans hmg3 g4
        have es : fst1 Q f'' (fp a (a + 1 + j)) = fstep Q f'' (fp a (a + 1 + j)) := by unfold fst1; rw [if_pos h0]
        by_cases hz : rnh Q f'' (fp a (a + 1 + j)) = 0
        · rw [hz] at n1
          refine ⟨(t4, some (.int (nI (gp a (a + 1 + j))))), ⟨hw4, hk1, hm4⟩, ?_⟩
          rw [es]
          unfold fstep
          rw [if_pos hz]
          simp (disch := first | assumption | exact hf _ | omega) only [b253, b253_0, b253_12, b253_26, b253_31, b253_38, b253_41, b253_44, b253_63, b253_77, b253_82, b253_85, b253_91, b253_94, b253_113, b253_119, b253_125, nI_add, mn_mul, mn_sub, mn_m1, mn_m8, mn_eq, mn_lt, mn_le, mn_eq0, mn_0eq, mn_lt0, mn_0lt, mn_le0, mn_0le, mn_eqm, mn_meq, mn_ltm, mn_mlt, mn_lem, mn_mle, mn_mm1, mn_mm2, mn_mm3, mn_mm4, mn_mm5, mn_mm6, mn_and, mn_or, mn_an, mn_shl, mn_shr, mn_div, mn_rem, mn_clamp, mn_in, mn_inm, mn_nz, mn_zo, mn_min, mn_max, mn_abs, mn_rfit, mn_cp, mn_les, mn_gre, mn_a127, mn_a15, mn_a1, mn_a255, mn_tn0, mn_tn0e, mn_tnr, mn_tnz, mr_get, mr_ne, mr_put, mu_ne, mu_eq, mj_bk_i, mj_bk_v, mj_bk_x, decide_eq_true_eq, decide_true, decide_false, Bool.false_eq_true, Bool.true_eq_false, reduceCtorEq, mt_le_t, mt_le_f, mt_lt_t, mt_lt_f, mt_eq_t, mt_eq_f, mt_ee, not_true_eq_false, not_false_eq_true, and_true, true_and, and_self, Nat.zero_add, Nat.add_zero, Nat.one_mul, Nat.mul_one, Nat.reduceAdd, Nat.reduceMul, Nat.reduceSub, Nat.reducePow, Nat.reduceDiv, Nat.reduceMod, ↓reduceIte, mp_h, mp_w, mp_c, mp_s, mp_d, mp_n, mp_54, mp_52, mp_55, mp_l, mp_o, mp_42, mp_45, gh_gp, gw_gp, gc_gp, mw_pne, Nat.or_zero, c222 ha8 hb8, c229 ha8 hb8, ep, h0, e4, mw_peq, n1, Nat.lt_irrefl, c255 ha8 hb8 hne, hn3]
        · have n4 := n2 (by omega)
          have n5 : 0 < mw_min (nI 99) (nI (fh f'' (fp a (a + 1 + j))) + rch Q (rvl f'' (fp a (a + 1 + j)))) := by rw [n1]; omega
          have hw5 : wf (fsh f'' (fp a (a + 1 + j)) (rnh Q f'' (fp a (a + 1 + j)))) L := wf_fsh hw3 hl h0 (by omega) h99
          obtain ⟨t5, e5, g5⟩ := c244 (X := X) (d := d) (s := t4) hw5 (rM_mg hq hm4 (by unfold m34; omega) (by unfold m34; omega) (by unfold m34; omega)) ho ha8 hb8 hne
          rw [← mp_w1 ha8 hb8 hne (by omega)] at e5
          have hm5 := mg_trans hm4 g5
          refine ⟨(t5, some (.int (nI (gp a (a + 1 + j))))), ⟨hw4, hk1, hm5⟩, ?_⟩
          rw [es]
          unfold fstep
          rw [if_neg hz]
          have hn6 : fsh f'' (fp a (a + 1 + j)) (rnh Q f'' (fp a (a + 1 + j))) 55 = f 55 := by unfold fsh; rw [mu_ne (by omega), hn3]
          cases hc : rcu Q (rvl (fsh f'' (fp a (a + 1 + j)) (rnh Q f'' (fp a (a + 1 + j)))) (fp a (a + 1 + j)))
          · rw [hc] at e5
            simp (disch := first | assumption | exact hf _ | omega) only [b253, b253_0, b253_12, b253_26, b253_31, b253_38, b253_41, b253_44, b253_63, b253_77, b253_82, b253_85, b253_91, b253_94, b253_113, b253_119, b253_125, nI_add, mn_mul, mn_sub, mn_m1, mn_m8, mn_eq, mn_lt, mn_le, mn_eq0, mn_0eq, mn_lt0, mn_0lt, mn_le0, mn_0le, mn_eqm, mn_meq, mn_ltm, mn_mlt, mn_lem, mn_mle, mn_mm1, mn_mm2, mn_mm3, mn_mm4, mn_mm5, mn_mm6, mn_and, mn_or, mn_an, mn_shl, mn_shr, mn_div, mn_rem, mn_clamp, mn_in, mn_inm, mn_nz, mn_zo, mn_min, mn_max, mn_abs, mn_rfit, mn_cp, mn_les, mn_gre, mn_a127, mn_a15, mn_a1, mn_a255, mn_tn0, mn_tn0e, mn_tnr, mn_tnz, mr_get, mr_ne, mr_put, mu_ne, mu_eq, mj_bk_i, mj_bk_v, mj_bk_x, decide_eq_true_eq, decide_true, decide_false, Bool.false_eq_true, Bool.true_eq_false, reduceCtorEq, mt_le_t, mt_le_f, mt_lt_t, mt_lt_f, mt_eq_t, mt_eq_f, mt_ee, not_true_eq_false, not_false_eq_true, and_true, true_and, and_self, Nat.zero_add, Nat.add_zero, Nat.one_mul, Nat.mul_one, Nat.reduceAdd, Nat.reduceMul, Nat.reduceSub, Nat.reducePow, Nat.reduceDiv, Nat.reduceMod, ↓reduceIte, mp_h, mp_w, mp_c, mp_s, mp_d, mp_n, mp_54, mp_52, mp_55, mp_l, mp_o, mp_42, mp_45, gh_gp, gw_gp, gc_gp, mw_pne, Nat.or_zero, c222 ha8 hb8, c229 ha8 hb8, ep, h0, e4, n4, mw_peq, n5, e5, hn3, Bool.toNat_false]
          · rw [hc] at e5
            have hc5 := wf_c hw5 hl
            have ec : fcp (fsh f'' (fp a (a + 1 + j)) (rnh Q f'' (fp a (a + 1 + j)))) a (a + 1 + j) = fc (fsh f'' (fp a (a + 1 + j)) (rnh Q f'' (fp a (a + 1 + j)))) (fp a (a + 1 + j)) := by unfold fcp; rw [if_neg hne]
            have ef : mp t5 (mr_u (fsh f'' (fp a (a + 1 + j)) (rnh Q f'' (fp a (a + 1 + j)))) (24 + fp a (a + 1 + j)) (fsh f'' (fp a (a + 1 + j)) (rnh Q f'' (fp a (a + 1 + j))) (24 + fp a (a + 1 + j)) % 2048 + min 99 (fc (fsh f'' (fp a (a + 1 + j)) (rnh Q f'' (fp a (a + 1 + j)))) (fp a (a + 1 + j)) + 1) * 2048)) = mp t5 (fac (fsh f'' (fp a (a + 1 + j)) (rnh Q f'' (fp a (a + 1 + j)))) (fp a (a + 1 + j))) := mp_ext (fun k hk => by
              rw [fac_j]
              unfold mr_u
              by_cases hk2 : k = 24 + fp a (a + 1 + j)
              · rw [if_pos hk2, if_pos hk2]
                unfold fc at hc5 ⊢
                split <;> omega
              · rw [if_neg hk2, if_neg hk2]) (by rw [fac_64 hl]; exact mu_ne (by omega))
            have e6 : mw_p (mp t5 (fsh f'' (fp a (a + 1 + j)) (rnh Q f'' (fp a (a + 1 + j))))) 61 (gp a (a + 1 + j)) (nI (min 99 (fc (fsh f'' (fp a (a + 1 + j)) (rnh Q f'' (fp a (a + 1 + j)))) (fp a (a + 1 + j)) + 1))) = mp t5 (fac (fsh f'' (fp a (a + 1 + j)) (rnh Q f'' (fp a (a + 1 + j)))) (fp a (a + 1 + j))) := (mp_w2 ha8 hb8 hne).trans ef
            simp (disch := first | assumption | exact hf _ | omega) only [b253, b253_0, b253_12, b253_26, b253_31, b253_38, b253_41, b253_44, b253_63, b253_77, b253_82, b253_85, b253_91, b253_94, b253_113, b253_119, b253_125, nI_add, mn_mul, mn_sub, mn_m1, mn_m8, mn_eq, mn_lt, mn_le, mn_eq0, mn_0eq, mn_lt0, mn_0lt, mn_le0, mn_0le, mn_eqm, mn_meq, mn_ltm, mn_mlt, mn_lem, mn_mle, mn_mm1, mn_mm2, mn_mm3, mn_mm4, mn_mm5, mn_mm6, mn_and, mn_or, mn_an, mn_shl, mn_shr, mn_div, mn_rem, mn_clamp, mn_in, mn_inm, mn_nz, mn_zo, mn_min, mn_max, mn_abs, mn_rfit, mn_cp, mn_les, mn_gre, mn_a127, mn_a15, mn_a1, mn_a255, mn_tn0, mn_tn0e, mn_tnr, mn_tnz, mr_get, mr_ne, mr_put, mu_ne, mu_eq, mj_bk_i, mj_bk_v, mj_bk_x, decide_eq_true_eq, decide_true, decide_false, Bool.false_eq_true, Bool.true_eq_false, reduceCtorEq, mt_le_t, mt_le_f, mt_lt_t, mt_lt_f, mt_eq_t, mt_eq_f, mt_ee, not_true_eq_false, not_false_eq_true, and_true, true_and, and_self, Nat.zero_add, Nat.add_zero, Nat.one_mul, Nat.mul_one, Nat.reduceAdd, Nat.reduceMul, Nat.reduceSub, Nat.reducePow, Nat.reduceDiv, Nat.reduceMod, ↓reduceIte, mp_h, mp_w, mp_c, mp_s, mp_d, mp_n, mp_54, mp_52, mp_55, mp_l, mp_o, mp_42, mp_45, gh_gp, gw_gp, gc_gp, mw_pne, Nat.or_zero, c222 ha8 hb8, c229 ha8 hb8, ep, h0, e4, n4, mw_peq, n5, e5, ec, e6, hn3, Bool.toNat_true]
      · refine ⟨(g3, some (.int (nI (gp a (a + 1 + j))))), ⟨hw4, hk1, hmg3⟩, ?_⟩
        have es : fst1 Q f'' (fp a (a + 1 + j)) = f'' := by unfold fst1; rw [if_neg h0]
        rw [es]
        simp (disch := first | assumption | exact hf _ | omega) only [b253, b253_0, b253_12, b253_26, b253_31, b253_38, b253_41, b253_44, b253_63, b253_77, b253_82, b253_85, b253_91, b253_94, b253_113, b253_119, b253_125, nI_add, mn_mul, mn_sub, mn_m1, mn_m8, mn_eq, mn_lt, mn_le, mn_eq0, mn_0eq, mn_lt0, mn_0lt, mn_le0, mn_0le, mn_eqm, mn_meq, mn_ltm, mn_mlt, mn_lem, mn_mle, mn_mm1, mn_mm2, mn_mm3, mn_mm4, mn_mm5, mn_mm6, mn_and, mn_or, mn_an, mn_shl, mn_shr, mn_div, mn_rem, mn_clamp, mn_in, mn_inm, mn_nz, mn_zo, mn_min, mn_max, mn_abs, mn_rfit, mn_cp, mn_les, mn_gre, mn_a127, mn_a15, mn_a1, mn_a255, mn_tn0, mn_tn0e, mn_tnr, mn_tnz, mr_get, mr_ne, mr_put, mu_ne, mu_eq, mj_bk_i, mj_bk_v, mj_bk_x, decide_eq_true_eq, decide_true, decide_false, Bool.false_eq_true, Bool.true_eq_false, reduceCtorEq, mt_le_t, mt_le_f, mt_lt_t, mt_lt_f, mt_eq_t, mt_eq_f, mt_ee, not_true_eq_false, not_false_eq_true, and_true, true_and, and_self, Nat.zero_add, Nat.add_zero, Nat.one_mul, Nat.mul_one, Nat.reduceAdd, Nat.reduceMul, Nat.reduceSub, Nat.reducePow, Nat.reduceDiv, Nat.reduceMod, ↓reduceIte, mp_h, mp_w, mp_c, mp_s, mp_d, mp_n, mp_54, mp_52, mp_55, mp_l, mp_o, mp_42, mp_45, gh_gp, gw_gp, gc_gp, mw_pne, Nat.or_zero, c222 ha8 hb8, c229 ha8 hb8, ep, h0, hn3]) (a := f') (g := (g, l3)) ⟨hw', hn', hmg⟩ (f 55 - (a + 1)) (Nat.le_refl _)
    obtain ⟨g2, l3'⟩ := g2
    refine ⟨(g2, some (.int (nI (a + 1 + (f 55 - (a + 1))))), l3'), ⟨hw2, hn2, hmg2⟩, ?_⟩
    dsimp only at e2 ⊢
    rw [b253_2]
    simp (disch := first | assumption | exact hf _ | omega) only [mn_in, mn_clamp, mp_55, hn', mn_le, mt_le_f, mt_lt_t, decide_eq_true_eq, ↓reduceIte, b253_12, nI_add]
    refine e2.trans ?_
    rw [b253_16]
    simp (disch := first | assumption | exact hf _ | omega) only [b253, b253_0, b253_12, b253_26, b253_31, b253_38, b253_41, b253_44, b253_63, b253_77, b253_82, b253_85, b253_91, b253_94, b253_113, b253_119, b253_125, nI_add, mn_mul, mn_sub, mn_m1, mn_m8, mn_eq, mn_lt, mn_le, mn_eq0, mn_0eq, mn_lt0, mn_0lt, mn_le0, mn_0le, mn_eqm, mn_meq, mn_ltm, mn_mlt, mn_lem, mn_mle, mn_mm1, mn_mm2, mn_mm3, mn_mm4, mn_mm5, mn_mm6, mn_and, mn_or, mn_an, mn_shl, mn_shr, mn_div, mn_rem, mn_clamp, mn_in, mn_inm, mn_nz, mn_zo, mn_min, mn_max, mn_abs, mn_rfit, mn_cp, mn_les, mn_gre, mn_a127, mn_a15, mn_a1, mn_a255, mn_tn0, mn_tn0e, mn_tnr, mn_tnz, mr_get, mr_ne, mr_put, mu_ne, mu_eq, mj_bk_i, mj_bk_v, mj_bk_x, decide_eq_true_eq, decide_true, decide_false, Bool.false_eq_true, Bool.true_eq_false, reduceCtorEq, mt_le_t, mt_le_f, mt_lt_t, mt_lt_f, mt_eq_t, mt_eq_f, mt_ee, not_true_eq_false, not_false_eq_true, and_true, true_and, and_self, Nat.zero_add, Nat.add_zero, Nat.one_mul, Nat.mul_one, Nat.reduceAdd, Nat.reduceMul, Nat.reduceSub, Nat.reducePow, Nat.reduceDiv, Nat.reduceMod, ↓reduceIte, mp_h, mp_w, mp_c, mp_s, mp_d, mp_n, mp_54, mp_52, mp_55, mp_l, mp_o, mp_42, mp_45, gh_gp, gw_gp, gc_gp, mw_pne, Nat.or_zero, hn2]) (a := f) (g := (s, none, none)) ⟨hw, rfl, mg_refl⟩ (f 55) (Nat.le_refl _)
  obtain ⟨g, l2, l3⟩ := g
  have ek : mr_it (fun a f' => mr_it (fun j f'' => fst1 Q f'' (fp a (a + 1 + j))) (f 55 - (a + 1)) f') (f 55) f = fwk0 Q f := pairs_n (G := fun i f => fst1 Q f i) (I := fun f' => wf f' L ∧ f' 55 = f 55) hn (fun i a hi h => ⟨wf_st1 h.1 hi, by rw [fst1_o hi (by omega), h.2]⟩) (fun p q a h1 h2 h3 h => fst1_n h.1 h1 h2 (by omega)) ⟨hw, rfl⟩
  rw [ek] at e hn5 hwg
  refine ⟨g, ?_, hmg⟩
  rw [b253, b253_0]
  refine e.trans ?_
  dsimp only
  rw [b253_2]
  have h54' : fwk0 Q f 54 = f 54 := fwk0_o (by omega)
  simp (disch := first | assumption | exact hf _ | omega) only [b253, b253_0, b253_12, b253_26, b253_31, b253_38, b253_41, b253_44, b253_63, b253_77, b253_82, b253_85, b253_91, b253_94, b253_113, b253_119, b253_125, nI_add, mn_mul, mn_sub, mn_m1, mn_m8, mn_eq, mn_lt, mn_le, mn_eq0, mn_0eq, mn_lt0, mn_0lt, mn_le0, mn_0le, mn_eqm, mn_meq, mn_ltm, mn_mlt, mn_lem, mn_mle, mn_mm1, mn_mm2, mn_mm3, mn_mm4, mn_mm5, mn_mm6, mn_and, mn_or, mn_an, mn_shl, mn_shr, mn_div, mn_rem, mn_clamp, mn_in, mn_inm, mn_nz, mn_zo, mn_min, mn_max, mn_abs, mn_rfit, mn_cp, mn_les, mn_gre, mn_a127, mn_a15, mn_a1, mn_a255, mn_tn0, mn_tn0e, mn_tnr, mn_tnz, mr_get, mr_ne, mr_put, mu_ne, mu_eq, mj_bk_i, mj_bk_v, mj_bk_x, decide_eq_true_eq, decide_true, decide_false, Bool.false_eq_true, Bool.true_eq_false, reduceCtorEq, mt_le_t, mt_le_f, mt_lt_t, mt_lt_f, mt_eq_t, mt_eq_f, mt_ee, not_true_eq_false, not_false_eq_true, and_true, true_and, and_self, Nat.zero_add, Nat.add_zero, Nat.one_mul, Nat.mul_one, Nat.reduceAdd, Nat.reduceMul, Nat.reduceSub, Nat.reducePow, Nat.reduceDiv, Nat.reduceMod, ↓reduceIte, mp_h, mp_w, mp_c, mp_s, mp_d, mp_n, mp_54, mp_52, mp_55, mp_l, mp_o, mp_42, mp_45, gh_gp, gw_gp, gc_gp, mw_pne, Nat.or_zero, hn5, mp_w54]
  rfl
theorem c252 (hw : wf f L) (hq : rM s Q) (ho : rOK Q) {n : Nat} (hn : f 54 + n < 2147483647) : ∃ t, mj_call X (d + 6) 252 [.ref 42, .int (nI n)] (mw_U (mp s f)) = some (.inl none, mw_U (mp t (fwks Q f n))) ∧ mg s t m34 := by
  obtain ⟨g, ⟨hwg, h54g, hmg⟩, e⟩ := mr_forg (α := Nat → Nat) (γ := mw_S) (E := fun i f' g => mj_exec X (d + 6) 252 2 [some (.ref 42), some (.int (nI n)), some (.int (nI i))] [] (mw_U (mp g f'))) (F := fun _ f' => fwk Q f') (I := fun i f' g => wf f' L ∧ f' 54 = f 54 + i ∧ mg s g m34) (N := n) (by
    intro i f' g hi ⟨hw', h54', hmg⟩
    obtain ⟨t4, e4, g4⟩ := c253 (X := X) (d := d) (s := g) hw' (rM_mg hq hmg (by unfold m34; omega) (by unfold m34; omega) (by unfold m34; omega)) ho (by omega)
    refine ⟨t4, ⟨wf_wk hw' (by omega), by rw [fwk_54]; omega, mg_trans hmg g4⟩, ?_⟩
    rw [b252_2]
    simp (disch := first | assumption | exact hf _ | omega) only [b252, b252_0, b252_7, b252_11, b252_17, nI_add, mn_mul, mn_sub, mn_m1, mn_m8, mn_eq, mn_lt, mn_le, mn_eq0, mn_0eq, mn_lt0, mn_0lt, mn_le0, mn_0le, mn_eqm, mn_meq, mn_ltm, mn_mlt, mn_lem, mn_mle, mn_mm1, mn_mm2, mn_mm3, mn_mm4, mn_mm5, mn_mm6, mn_and, mn_or, mn_an, mn_shl, mn_shr, mn_div, mn_rem, mn_clamp, mn_in, mn_inm, mn_nz, mn_zo, mn_min, mn_max, mn_abs, mn_rfit, mn_cp, mn_les, mn_gre, mn_a127, mn_a15, mn_a1, mn_a255, mn_tn0, mn_tn0e, mn_tnr, mn_tnz, mr_get, mr_ne, mr_put, mu_ne, mu_eq, mj_bk_i, mj_bk_v, mj_bk_x, decide_eq_true_eq, decide_true, decide_false, Bool.false_eq_true, Bool.true_eq_false, reduceCtorEq, mt_le_t, mt_le_f, mt_lt_t, mt_lt_f, mt_eq_t, mt_eq_f, mt_ee, not_true_eq_false, not_false_eq_true, and_true, true_and, and_self, Nat.zero_add, Nat.add_zero, Nat.one_mul, Nat.mul_one, Nat.reduceAdd, Nat.reduceMul, Nat.reduceSub, Nat.reducePow, Nat.reduceDiv, Nat.reduceMod, ↓reduceIte, mp_h, mp_w, mp_c, mp_s, mp_d, mp_n, mp_54, mp_52, mp_55, mp_l, mp_o, mp_42, mp_45, gh_gp, gw_gp, gc_gp, mw_pne, Nat.or_zero, e4]) (a := f) (g := s) ⟨hw, rfl, mg_refl⟩ n (Nat.le_refl n)
  refine ⟨g, ?_, hmg⟩
  rw [b252, b252_0]
  refine e.trans ?_
  rw [b252_2]
  simp (disch := first | assumption | exact hf _ | omega) only [b252, b252_0, b252_7, b252_11, b252_17, nI_add, mn_mul, mn_sub, mn_m1, mn_m8, mn_eq, mn_lt, mn_le, mn_eq0, mn_0eq, mn_lt0, mn_0lt, mn_le0, mn_0le, mn_eqm, mn_meq, mn_ltm, mn_mlt, mn_lem, mn_mle, mn_mm1, mn_mm2, mn_mm3, mn_mm4, mn_mm5, mn_mm6, mn_and, mn_or, mn_an, mn_shl, mn_shr, mn_div, mn_rem, mn_clamp, mn_in, mn_inm, mn_nz, mn_zo, mn_min, mn_max, mn_abs, mn_rfit, mn_cp, mn_les, mn_gre, mn_a127, mn_a15, mn_a1, mn_a255, mn_tn0, mn_tn0e, mn_tnr, mn_tnz, mr_get, mr_ne, mr_put, mu_ne, mu_eq, mj_bk_i, mj_bk_v, mj_bk_x, decide_eq_true_eq, decide_true, decide_false, Bool.false_eq_true, Bool.true_eq_false, reduceCtorEq, mt_le_t, mt_le_f, mt_lt_t, mt_lt_f, mt_eq_t, mt_eq_f, mt_ee, not_true_eq_false, not_false_eq_true, and_true, true_and, and_self, Nat.zero_add, Nat.add_zero, Nat.one_mul, Nat.mul_one, Nat.reduceAdd, Nat.reduceMul, Nat.reduceSub, Nat.reducePow, Nat.reduceDiv, Nat.reduceMod, ↓reduceIte, mp_h, mp_w, mp_c, mp_s, mp_d, mp_n, mp_54, mp_52, mp_55, mp_l, mp_o, mp_42, mp_45, gh_gp, gw_gp, gc_gp, mw_pne, Nat.or_zero]
  rfl
end
