/-! the reference: deaths, guesses -/
section
variable {f : Nat → Nat}
theorem fd_inv (hw : wf f (f 52)) (g : Nat) : ∀ n, n ≤ 8 → wf (mr_it (fun p f' => if g.testBit p then fbur f' p else f') n f) (mr_it (fun p f' => if g.testBit p then fbur f' p else f') n f 52) ∧ sst f (mr_it (fun p f' => if g.testBit p then fbur f' p else f') n f) ∧ (∀ i, (mr_it (fun p f' => if g.testBit p then fbur f' p else f') n f 52).testBit i = ((f 52).testBit i && !(g.testBit i && decide (i < n))))
  | 0, _ => ⟨hw, ⟨fun _ _ => rfl, rfl, rfl, rfl⟩, fun i => by rw [decide_eq_false (by omega)]; simp [mr_it]⟩
  | n + 1, hn => by
    obtain ⟨h1, h2, h3⟩ := fd_inv hw g n (by omega)
    rw [mr_it]
    by_cases hg : g.testBit n = true
    · rw [if_pos hg]
      obtain ⟨k1, k2, k3⟩ := wf_bur h1 (show n < 8 by omega)
      refine ⟨k1, sst_trans h2 (sst_bur h1 (by omega)), fun i => ?_⟩
      rw [k2, mn_d_bit, h3, bit_pow]
      by_cases he : n = i
      · subst he; rw [hg, decide_eq_true (rfl : n = n), decide_eq_true (show n < n + 1 by omega)]; simp
      · rw [decide_eq_false he]
        have : decide (i < n) = decide (i < n + 1) := decide_eq_decide.mpr (by omega)
        rw [this]; simp
    · rw [if_neg hg]
      refine ⟨h1, h2, fun i => ?_⟩
      rw [h3]
      by_cases he : n = i
      · subst he
        have hg' : g.testBit n = false := by simpa using hg
        rw [hg']
        simp
      · have : decide (i < n) = decide (i < n + 1) := decide_eq_decide.mpr (by omega)
        rw [this]
theorem fd_wf (hw : wf f (f 52)) (g : Nat) : wf (fd f g) (fd f g 52) ∧ sst f (fd f g) := ⟨(fd_inv hw g 8 (Nat.le_refl 8)).1, (fd_inv hw g 8 (Nat.le_refl 8)).2.1⟩
theorem fd_all (hw : wf f (f 52)) : fn_many (fd f (f 52)) = 0 := by
  obtain ⟨h1, -, h3⟩ := fd_inv hw (f 52) 8 (Nat.le_refl 8)
  have h52 := wf_l8 hw
  have hz : fd f (f 52) 52 = 0 := by
    apply d_eq
    intro i
    have h3 : (fd f (f 52) 52).testBit i = _ := h3 i
    rw [h3, Nat.zero_testBit]
    cases hb : (f 52).testBit i
    · rfl
    · rw [decide_eq_true (bit_lt (n := 8) h52 hb)]; rfl
  have h1 : wf (fd f (f 52)) (fd f (f 52) 52) := h1
  rw [hz] at h1
  refine mr_it_inv (I := fun _ c => c = 0) rfl (fun i c hi hc => ?_)
  rcases wf_q h1 hi with h | h
  · rw [if_pos h]; exact hc
  · have := h.2.2.2.2.1
    rw [Nat.zero_testBit] at this
    cases this
theorem dth_eq (hw : wf f (f 52)) : mr_it (fun g (o : Option Nat) => if mn_d g (f 52) = 0 ∧ (∀ b, o = some b → fn_cnt g < fn_cnt b) ∧ fn_many (fd f g) = 0 then some g else o) (f 52 + 1) none = some (fn_dth f) := by
  have h52 := wf_l8 hw
  have e8 : fn_dth f = mr_it (fun g b => if fn_cnt g < fn_cnt b ∧ mn_d g (f 52) = 0 ∧ fn_many (fd f g) = 0 then g else b) (f 52 + 1) (f 52) := mr_it_ext (by omega) (fun g b h1 h2 => if_neg (fun z => by
    have := d_sub_le z.2.1
    omega))
  have key : ∀ n, n ≤ f 52 → (mr_it (fun g (o : Option Nat) => if mn_d g (f 52) = 0 ∧ (∀ b, o = some b → fn_cnt g < fn_cnt b) ∧ fn_many (fd f g) = 0 then some g else o) n none = none ∧ mr_it (fun g b => if fn_cnt g < fn_cnt b ∧ mn_d g (f 52) = 0 ∧ fn_many (fd f g) = 0 then g else b) n (f 52) = f 52) ∨ (∃ c, mr_it (fun g (o : Option Nat) => if mn_d g (f 52) = 0 ∧ (∀ b, o = some b → fn_cnt g < fn_cnt b) ∧ fn_many (fd f g) = 0 then some g else o) n none = some c ∧ mr_it (fun g b => if fn_cnt g < fn_cnt b ∧ mn_d g (f 52) = 0 ∧ fn_many (fd f g) = 0 then g else b) n (f 52) = c ∧ fn_cnt c < fn_cnt (f 52)) := by
    intro n
    induction n with
    | zero => intro _; exact Or.inl ⟨rfl, rfl⟩
    | succ n ih =>
      intro hn
      rw [mr_it, mr_it]
      by_cases hc : mn_d n (f 52) = 0 ∧ fn_many (fd f n) = 0
      · have hlt : fn_cnt n < fn_cnt (f 52) := cnt_lt h52 (d_sub.mp hc.1) (by omega)
        rcases ih (by omega) with ⟨a, b⟩ | ⟨c, a, b, h⟩
        · right
          refine ⟨n, ?_, ?_, hlt⟩
          · rw [a, if_pos ⟨hc.1, (fun b hb => by cases hb), hc.2⟩]
          · rw [b, if_pos ⟨hlt, hc.1, hc.2⟩]
        · right
          rw [a, b]
          by_cases h2 : fn_cnt n < fn_cnt c
          · exact ⟨n, if_pos ⟨hc.1, fun b hb => by cases hb; exact h2, hc.2⟩, if_pos ⟨h2, hc.1, hc.2⟩, hlt⟩
          · exact ⟨c, if_neg (fun z => h2 (z.2.1 c rfl)), if_neg (fun z => h2 z.1), h⟩
      · have n1 : ∀ o : Option Nat, (if mn_d n (f 52) = 0 ∧ (∀ b, o = some b → fn_cnt n < fn_cnt b) ∧ fn_many (fd f n) = 0 then some n else o) = o := fun o => if_neg (fun z => hc ⟨z.1, z.2.2⟩)
        have n2 : ∀ b : Nat, (if fn_cnt n < fn_cnt b ∧ mn_d n (f 52) = 0 ∧ fn_many (fd f n) = 0 then n else b) = b := fun b => if_neg (fun z => hc ⟨z.2.1, z.2.2⟩)
        rw [n1, n2]
        exact ih (by omega)
  rw [e8, mr_it, mr_it]
  have hself : mn_d (f 52) (f 52) = 0 := d_and.mpr (Nat.and_self _)
  rcases key (f 52) (Nat.le_refl _) with ⟨a, b⟩ | ⟨c, a, b, h⟩
  · rw [a, b, if_pos ⟨hself, (fun b hb => by cases hb), fd_all hw⟩, if_neg (fun z => Nat.lt_irrefl _ z.1)]
  · rw [a, b, if_neg (fun z => by have := z.2.1 c rfl; omega), if_neg (fun z => by have := z.1; omega)]
/-- another nerve -/
theorem wf_nv {L : Nat} (hw : wf f L) {p v : Nat} (hp : p < 8) (hv : v ≤ 9) : wf (mr_u f p v) L := by
  have e : ∀ j, ¬ j = p → mr_u f p v j = f j := fun j hj => mu_ne hj
  refine wf_chg hw (mu_lt (wf_lt hw) (by omega)) (e 55 (by omega)) ⟨wf_L hw, by rw [e 52 (by omega)]; exact wf_l hw, by rw [e 53 (by omega)]; exact wf_w hw⟩ (fun q hq => ⟨?_, by rw [e (8 + q) (by omega)]; exact wf_d hw hq⟩) ?_ (fun i hi => e _ (by omega)) (fun i hi h => wf_m hw hi h) (fun q hq => e _ (by omega))
  · by_cases he : q = p
    · subst he; rw [mu_eq]; exact hv
    · rw [e q he]; exact wf_p hw hq
  · intro a b ha hab
    rw [fs_some, e _ (by omega), ← fs_some] at hab
    obtain ⟨h1, h2, h3, h4⟩ := wf_s hw ha hab
    refine ⟨h1, h2, ?_, by rw [e 52 (by omega)]; exact h4⟩
    rw [fs_some, e _ (by omega), ← fs_some]; exact h3
end
abbrev sS : Type := (Nat → Nat) × (Nat → Nat) × (Nat → Nat) × Nat
def sOK (σ : sS) : Prop := σ.2.2.2 ≤ 8 ∧ ∀ k, k < σ.2.2.2 → σ.1 k < 28 ∧ σ.2.1 k ≤ 20 ∧ σ.2.2.1 k ≤ 99
def SM (s : mw_S) (σ : sS) : Prop := s.1 42 35 = nI σ.2.2.2 ∧ ∀ k, k < σ.2.2.2 → s.1 67 k = nI (gp (mn_l (σ.1 k)) (mn_g (σ.1 k))) ∧ s.1 68 k = nI (σ.2.1 k) ∧ s.1 69 k = nI (σ.2.2.1 k)
def asB (Q : rQ) (f : Nat → Nat) (σ : sS) : Bool := decide (∀ k, k < σ.2.2.2 → fh (fwks Q f (σ.2.1 k)) (σ.1 k) = σ.2.2.1 k)
def aw (Q : rQ) (f : Nat → Nat) (σ : sS) (w : Nat) : Bool := decide (∀ k, k < σ.2.2.2 → σ.2.1 k = w → fh (fwks Q f w) (σ.1 k) = σ.2.2.1 k)
def lst (σ : sS) : Nat := mr_it (fun k c => max c (σ.2.1 k)) σ.2.2.2 0
theorem lst_le {σ : sS} (h : sOK σ) : lst σ ≤ 20 := mr_it_inv (I := fun _ c => c ≤ 20) (by decide) (fun i c hi hc => by have := (h.2 i hi).2.1; omega)
theorem lst_ge {σ : sS} : ∀ {n k : Nat}, k < n → σ.2.1 k ≤ mr_it (fun k c => max c (σ.2.1 k)) n 0
  | n + 1, k, h => by
    rw [mr_it]
    by_cases he : k = n
    · subst he; omega
    · have := lst_ge (σ := σ) (n := n) (k := k) (by omega); omega
theorem asB_w {Q : rQ} {f : Nat → Nat} {σ : sS} : asB Q f σ = true ↔ ∀ w, w < lst σ + 1 → aw Q f σ w = true := by
  unfold asB aw
  rw [decide_eq_true_eq]
  constructor
  · intro h w _
    rw [decide_eq_true_eq]
    intro k hk hw
    rw [← hw]; exact h k hk
  · intro h k hk
    have := h (σ.2.1 k) (by have := lst_ge (σ := σ) hk; unfold lst; omega)
    rw [decide_eq_true_eq] at this
    exact this k hk rfl
theorem gh_i {f : Nat → Nat} {i : Nat} (hi : i < 28) : gh f (gp (mn_l i) (mn_g i)) = fh f i := by
  have hlg := mn_lg hi
  rw [gh_gp (by omega) hlg.2]
  unfold fhp
  rw [if_neg (by omega), fp_lg hi]
theorem SM_mg {s t : mw_S} {σ : sS} {P : Nat → Prop} (h : SM s σ) (hg : mg s t P) (h1 : ¬ P 42) (h2 : ¬ P 67) (h3 : ¬ P 68) (h4 : ¬ P 69) : SM t σ := by
  unfold SM at h ⊢
  rw [hg.2 42 h1, hg.2 67 h2, hg.2 68 h3, hg.2 69 h4]
  exact h
section
variable {X : mj_X} {d : Nat} {s : mw_S} {f : Nat → Nat} {Q : rQ} {σ : sS}
theorem m279 (hw : wf f (f 52)) : ∃ t, mj_call X (d + 7) 279 [.ref 42] (mw_U (mp s f)) = some (.inl (some (.int (nI (fn_dth f)))), mw_U (mp t f)) ∧ t.1 42 2 = nI 0 ∧ mh s t := by
  have hn8 := wf_n hw
  have h52 := wf_l8 hw
  obtain ⟨t1, e1, h1, g1, u1⟩ := pk66 (X := X) (d := d + 6) (s := mw_p s 42 2 (nI 0)) (f := f) (K := 66) (Or.inl rfl) hw
  refine ⟨t1, ?_, by rw [g1.2 42 (by decide), mw_peq], mh_trans (mh_p2 (Or.inl rfl)) h1⟩
  have start : mj_call X (d + 7) 279 [.ref 42] (mw_U (mp s f)) = mj_exec X (d + 7) 279 23 [some (.ref 42), some (.int (nI (f 52))), some (.int (-1)), some (.int (nI 0)), none] [] (mw_U (mp t1 f)) := by
    simp (disch := first | assumption | exact hf _ | omega) only [b279, b279_0, b279_14, b279_28, b279_36, b279_41, b279_45, b279_49, b279_52, b279_55, b279_69, b279_75, b279_78, b279_84, b279_90, b279_94, b279_97, b279_99, b279_108, b279_114, nI_add, mn_mul, mn_sub, mn_m1, mn_m8, mn_eq, mn_lt, mn_le, mn_eq0, mn_0eq, mn_lt0, mn_0lt, mn_le0, mn_0le, mn_eqm, mn_meq, mn_ltm, mn_mlt, mn_lem, mn_mle, mn_mm1, mn_mm2, mn_mm3, mn_mm4, mn_mm5, mn_mm6, mn_and, mn_or, mn_an, mn_shl, mn_shr, mn_div, mn_rem, mn_clamp, mn_in, mn_inm, mn_nz, mn_zo, mn_min, mn_max, mn_abs, mn_rfit, mn_cp, mn_les, mn_gre, mn_a127, mn_a15, mn_a1, mn_a255, mn_tn0, mn_tn0e, mn_tnr, mn_tnz, mr_get, mr_ne, mr_put, mu_ne, mu_eq, mj_bk_i, mj_bk_v, mj_bk_x, decide_eq_true_eq, decide_true, decide_false, Bool.false_eq_true, Bool.true_eq_false, reduceCtorEq, mt_le_t, mt_le_f, mt_lt_t, mt_lt_f, mt_eq_t, mt_eq_f, mt_ee, not_true_eq_false, not_false_eq_true, and_true, true_and, and_self, Nat.zero_add, Nat.add_zero, Nat.one_mul, Nat.mul_one, Nat.reduceAdd, Nat.reduceMul, Nat.reduceSub, Nat.reducePow, Nat.reduceDiv, Nat.reduceMod, ↓reduceIte, mp_h, mp_w, mp_c, mp_s, mp_d, mp_n, mp_54, mp_52, mp_55, mp_l, mp_o, mp_42, mp_45, gh_gp, gw_gp, gc_gp, mw_pne, Nat.or_zero, mp_wo, e1]
  rw [start]
  obtain ⟨hI, g_, e⟩ := mr_for (E := fun i (o : Option Nat) (l : Option Value) => mj_exec X (d + 7) 279 23 [some (.ref 42), some (.int (nI (f 52))), some (.int (mo o)), some (.int (nI i)), l] [] (mw_U (mp t1 f))) (F := fun g (o : Option Nat) => if mn_d g (f 52) = 0 ∧ (∀ b, o = some b → fn_cnt g < fn_cnt b) ∧ fn_many (fd f g) = 0 then some g else o) (I := fun _ o => ∀ b, o = some b → b < 256) (N := f 52 + 1) (by
    intro i o l hi hI
    refine ⟨?_, ?_⟩
    · intro b hb
      split at hb
      · cases hb; omega
      · exact hI b hb
    have hd1 : mn_d i (f 52) < 2147483648 := Nat.lt_of_le_of_lt (mn_d_le _ _) (by omega)
    have hfd := fd_wf hw i
    have hm := many_lt (fd f i)
    have e3 := u1 t1 (fd f i) mg_refl hfd.2
    have inner : ∀ l, ∃ l', mj_exec X (d + 7) 279 55 [some (.ref 42), some (.int (nI (f 52))), some (.int (mo o)), some (.int (nI i)), l] [] (mw_U (mp t1 f)) = mj_exec X (d + 7) 279 108 [some (.ref 42), some (.int (nI (f 52))), some (.int (if fn_many (fd f i) = 0 then nI i else mo o)), some (.int (nI i)), l'] [] (mw_U (mp t1 f)) := by
      intro l
      obtain ⟨hI, g_, e⟩ := mr_for (E := fun j f' (_ : Unit) => mj_exec X (d + 7) 279 58 [some (.ref 42), some (.int (nI (f 52))), some (.int (mo o)), some (.int (nI i)), some (.int (nI j))] [] (mw_U (mp t1 f'))) (F := fun p f' => if i.testBit p then fbur f' p else f') (I := fun _ f' => wf f' (f' 52) ∧ f' 55 = f 55) (N := f 55) (by
        intro j f' _ hj ⟨hw', h5⟩
        have hj8 : j < 8 := by omega
        obtain ⟨k1, -, k3⟩ := wf_bur hw' hj8
        refine ⟨?_, (), ?_⟩
        · split
          · exact ⟨k1, by rw [k3 55 (by omega)]; exact h5⟩
          · exact ⟨hw', h5⟩
        · rw [b279_58]
          cases h : i.testBit j
          · simp (disch := first | assumption | exact hf _ | omega) only [b279, b279_0, b279_14, b279_28, b279_36, b279_41, b279_45, b279_49, b279_52, b279_55, b279_69, b279_75, b279_78, b279_84, b279_90, b279_94, b279_97, b279_99, b279_108, b279_114, nI_add, mn_mul, mn_sub, mn_m1, mn_m8, mn_eq, mn_lt, mn_le, mn_eq0, mn_0eq, mn_lt0, mn_0lt, mn_le0, mn_0le, mn_eqm, mn_meq, mn_ltm, mn_mlt, mn_lem, mn_mle, mn_mm1, mn_mm2, mn_mm3, mn_mm4, mn_mm5, mn_mm6, mn_and, mn_or, mn_an, mn_shl, mn_shr, mn_div, mn_rem, mn_clamp, mn_in, mn_inm, mn_nz, mn_zo, mn_min, mn_max, mn_abs, mn_rfit, mn_cp, mn_les, mn_gre, mn_a127, mn_a15, mn_a1, mn_a255, mn_tn0, mn_tn0e, mn_tnr, mn_tnz, mr_get, mr_ne, mr_put, mu_ne, mu_eq, mj_bk_i, mj_bk_v, mj_bk_x, decide_eq_true_eq, decide_true, decide_false, Bool.false_eq_true, Bool.true_eq_false, reduceCtorEq, mt_le_t, mt_le_f, mt_lt_t, mt_lt_f, mt_eq_t, mt_eq_f, mt_ee, not_true_eq_false, not_false_eq_true, and_true, true_and, and_self, Nat.zero_add, Nat.add_zero, Nat.one_mul, Nat.mul_one, Nat.reduceAdd, Nat.reduceMul, Nat.reduceSub, Nat.reducePow, Nat.reduceDiv, Nat.reduceMod, ↓reduceIte, mp_h, mp_w, mp_c, mp_s, mp_d, mp_n, mp_54, mp_52, mp_55, mp_l, mp_o, mp_42, mp_45, gh_gp, gw_gp, gc_gp, mw_pne, Nat.or_zero, h5, c236, h]
          · simp (disch := first | assumption | exact hf _ | omega) only [b279, b279_0, b279_14, b279_28, b279_36, b279_41, b279_45, b279_49, b279_52, b279_55, b279_69, b279_75, b279_78, b279_84, b279_90, b279_94, b279_97, b279_99, b279_108, b279_114, nI_add, mn_mul, mn_sub, mn_m1, mn_m8, mn_eq, mn_lt, mn_le, mn_eq0, mn_0eq, mn_lt0, mn_0lt, mn_le0, mn_0le, mn_eqm, mn_meq, mn_ltm, mn_mlt, mn_lem, mn_mle, mn_mm1, mn_mm2, mn_mm3, mn_mm4, mn_mm5, mn_mm6, mn_and, mn_or, mn_an, mn_shl, mn_shr, mn_div, mn_rem, mn_clamp, mn_in, mn_inm, mn_nz, mn_zo, mn_min, mn_max, mn_abs, mn_rfit, mn_cp, mn_les, mn_gre, mn_a127, mn_a15, mn_a1, mn_a255, mn_tn0, mn_tn0e, mn_tnr, mn_tnz, mr_get, mr_ne, mr_put, mu_ne, mu_eq, mj_bk_i, mj_bk_v, mj_bk_x, decide_eq_true_eq, decide_true, decide_false, Bool.false_eq_true, Bool.true_eq_false, reduceCtorEq, mt_le_t, mt_le_f, mt_lt_t, mt_lt_f, mt_eq_t, mt_eq_f, mt_ee, not_true_eq_false, not_false_eq_true, and_true, true_and, and_self, Nat.zero_add, Nat.add_zero, Nat.one_mul, Nat.mul_one, Nat.reduceAdd, Nat.reduceMul, Nat.reduceSub, Nat.reducePow, Nat.reduceDiv, Nat.reduceMod, ↓reduceIte, mp_h, mp_w, mp_c, mp_s, mp_d, mp_n, mp_54, mp_52, mp_55, mp_l, mp_o, mp_42, mp_45, gh_gp, gw_gp, gc_gp, mw_pne, Nat.or_zero, h5, c236, h, c257 hw' (show 0 < f' 55 by omega) hj8]) (a := f) ⟨hw, rfl⟩ () (f 55) (Nat.le_refl _)
      have en : mr_it (fun p f' => if i.testBit p then fbur f' p else f') (f 55) f = fd f i := (mr_it_ext hn8 (fun p f' h1 h2 => by
        have : i.testBit p = false := by
          cases hb : i.testBit p
          · rfl
          · have := bit_lt (show i < 2 ^ f 55 by have := wf_l hw; omega) hb; omega
        rw [this]; rfl)).symm
      rw [en] at e hI
      refine ⟨some (.int (nI (f 55))), ?_⟩
      rw [b279_55]
      refine e.trans ?_
      rw [b279_58]
      by_cases hz : fn_many (fd f i) = 0
      · simp (disch := first | assumption | exact hf _ | omega) only [mn_in, decide_eq_true_eq, mt_lt_t, mn_clamp, mp_55, hI.2, mn_le, mt_le_t, Nat.le_refl, ↓reduceIte, b279_90, c227 hfd.1, mj_bk_i, b279_94, mn_eq0, hz, mt_ee, b279_97, b279_99, e3, mj_bk_v]
      · simp (disch := first | assumption | exact hf _ | omega) only [mn_in, decide_eq_true_eq, mt_lt_t, mn_clamp, mp_55, hI.2, mn_le, mt_le_t, Nat.le_refl, ↓reduceIte, b279_90, c227 hfd.1, mj_bk_i, b279_94, mn_eq0, hz, mt_ee, b279_97, b279_99, e3, mj_bk_v]
    obtain ⟨l', ei⟩ := inner l
    rw [b279_23]
    by_cases q1 : mn_d i (f 52) = 0
    · cases o with
      | none =>
        refine ⟨l', ?_⟩
        simp (disch := first | assumption | exact hf _ | omega) only [mn_lt, mt_lt_f, ↓reduceIte, b279_28, mn_an, mn_eq0, q1, mt_ee, b279_36, mo] at ei ⊢
        rw [ei, b279_108]
        by_cases q3 : fn_many (fd f i) = 0
        · simp (disch := first | assumption | exact hf _ | omega) only [b279, b279_0, b279_14, b279_28, b279_36, b279_41, b279_45, b279_49, b279_52, b279_55, b279_69, b279_75, b279_78, b279_84, b279_90, b279_94, b279_97, b279_99, b279_108, b279_114, nI_add, mn_mul, mn_sub, mn_m1, mn_m8, mn_eq, mn_lt, mn_le, mn_eq0, mn_0eq, mn_lt0, mn_0lt, mn_le0, mn_0le, mn_eqm, mn_meq, mn_ltm, mn_mlt, mn_lem, mn_mle, mn_mm1, mn_mm2, mn_mm3, mn_mm4, mn_mm5, mn_mm6, mn_and, mn_or, mn_an, mn_shl, mn_shr, mn_div, mn_rem, mn_clamp, mn_in, mn_inm, mn_nz, mn_zo, mn_min, mn_max, mn_abs, mn_rfit, mn_cp, mn_les, mn_gre, mn_a127, mn_a15, mn_a1, mn_a255, mn_tn0, mn_tn0e, mn_tnr, mn_tnz, mr_get, mr_ne, mr_put, mu_ne, mu_eq, mj_bk_i, mj_bk_v, mj_bk_x, decide_eq_true_eq, decide_true, decide_false, Bool.false_eq_true, Bool.true_eq_false, reduceCtorEq, mt_le_t, mt_le_f, mt_lt_t, mt_lt_f, mt_eq_t, mt_eq_f, mt_ee, not_true_eq_false, not_false_eq_true, and_true, true_and, and_self, Nat.zero_add, Nat.add_zero, Nat.one_mul, Nat.mul_one, Nat.reduceAdd, Nat.reduceMul, Nat.reduceSub, Nat.reducePow, Nat.reduceDiv, Nat.reduceMod, ↓reduceIte, mp_h, mp_w, mp_c, mp_s, mp_d, mp_n, mp_54, mp_52, mp_55, mp_l, mp_o, mp_42, mp_45, gh_gp, gw_gp, gc_gp, mw_pne, Nat.or_zero, q3, reduceCtorEq, false_implies, implies_true, and_self]
        · simp (disch := first | assumption | exact hf _ | omega) only [b279, b279_0, b279_14, b279_28, b279_36, b279_41, b279_45, b279_49, b279_52, b279_55, b279_69, b279_75, b279_78, b279_84, b279_90, b279_94, b279_97, b279_99, b279_108, b279_114, nI_add, mn_mul, mn_sub, mn_m1, mn_m8, mn_eq, mn_lt, mn_le, mn_eq0, mn_0eq, mn_lt0, mn_0lt, mn_le0, mn_0le, mn_eqm, mn_meq, mn_ltm, mn_mlt, mn_lem, mn_mle, mn_mm1, mn_mm2, mn_mm3, mn_mm4, mn_mm5, mn_mm6, mn_and, mn_or, mn_an, mn_shl, mn_shr, mn_div, mn_rem, mn_clamp, mn_in, mn_inm, mn_nz, mn_zo, mn_min, mn_max, mn_abs, mn_rfit, mn_cp, mn_les, mn_gre, mn_a127, mn_a15, mn_a1, mn_a255, mn_tn0, mn_tn0e, mn_tnr, mn_tnz, mr_get, mr_ne, mr_put, mu_ne, mu_eq, mj_bk_i, mj_bk_v, mj_bk_x, decide_eq_true_eq, decide_true, decide_false, Bool.false_eq_true, Bool.true_eq_false, reduceCtorEq, mt_le_t, mt_le_f, mt_lt_t, mt_lt_f, mt_eq_t, mt_eq_f, mt_ee, not_true_eq_false, not_false_eq_true, and_true, true_and, and_self, Nat.zero_add, Nat.add_zero, Nat.one_mul, Nat.mul_one, Nat.reduceAdd, Nat.reduceMul, Nat.reduceSub, Nat.reducePow, Nat.reduceDiv, Nat.reduceMod, ↓reduceIte, mp_h, mp_w, mp_c, mp_s, mp_d, mp_n, mp_54, mp_52, mp_55, mp_l, mp_o, mp_42, mp_45, gh_gp, gw_gp, gc_gp, mw_pne, Nat.or_zero, q3, and_false]
      | some b =>
        have hbi : b < 1024 := by have := hI b rfl; omega
        have h3 := fn_cnt_le i
        have h4 := fn_cnt_le b
        by_cases q2 : fn_cnt i < fn_cnt b
        · refine ⟨l', ?_⟩
          simp (disch := first | assumption | exact hf _ | omega) only [mn_lt, mt_lt_f, ↓reduceIte, b279_28, mn_an, mn_eq0, q1, mt_ee, b279_36, mo, mn_eqm, b279_41, c230 (show i < 1024 by omega), c230 hbi, mj_bk_i, b279_45, b279_49, q2] at ei ⊢
          rw [ei, b279_108]
          by_cases q3 : fn_many (fd f i) = 0
          · simp (disch := first | assumption | exact hf _ | omega) only [b279, b279_0, b279_14, b279_28, b279_36, b279_41, b279_45, b279_49, b279_52, b279_55, b279_69, b279_75, b279_78, b279_84, b279_90, b279_94, b279_97, b279_99, b279_108, b279_114, nI_add, mn_mul, mn_sub, mn_m1, mn_m8, mn_eq, mn_lt, mn_le, mn_eq0, mn_0eq, mn_lt0, mn_0lt, mn_le0, mn_0le, mn_eqm, mn_meq, mn_ltm, mn_mlt, mn_lem, mn_mle, mn_mm1, mn_mm2, mn_mm3, mn_mm4, mn_mm5, mn_mm6, mn_and, mn_or, mn_an, mn_shl, mn_shr, mn_div, mn_rem, mn_clamp, mn_in, mn_inm, mn_nz, mn_zo, mn_min, mn_max, mn_abs, mn_rfit, mn_cp, mn_les, mn_gre, mn_a127, mn_a15, mn_a1, mn_a255, mn_tn0, mn_tn0e, mn_tnr, mn_tnz, mr_get, mr_ne, mr_put, mu_ne, mu_eq, mj_bk_i, mj_bk_v, mj_bk_x, decide_eq_true_eq, decide_true, decide_false, Bool.false_eq_true, Bool.true_eq_false, reduceCtorEq, mt_le_t, mt_le_f, mt_lt_t, mt_lt_f, mt_eq_t, mt_eq_f, mt_ee, not_true_eq_false, not_false_eq_true, and_true, true_and, and_self, Nat.zero_add, Nat.add_zero, Nat.one_mul, Nat.mul_one, Nat.reduceAdd, Nat.reduceMul, Nat.reduceSub, Nat.reducePow, Nat.reduceDiv, Nat.reduceMod, ↓reduceIte, mp_h, mp_w, mp_c, mp_s, mp_d, mp_n, mp_54, mp_52, mp_55, mp_l, mp_o, mp_42, mp_45, gh_gp, gw_gp, gc_gp, mw_pne, Nat.or_zero, q3, Option.some.injEq, forall_eq', q2, and_self]
          · simp (disch := first | assumption | exact hf _ | omega) only [b279, b279_0, b279_14, b279_28, b279_36, b279_41, b279_45, b279_49, b279_52, b279_55, b279_69, b279_75, b279_78, b279_84, b279_90, b279_94, b279_97, b279_99, b279_108, b279_114, nI_add, mn_mul, mn_sub, mn_m1, mn_m8, mn_eq, mn_lt, mn_le, mn_eq0, mn_0eq, mn_lt0, mn_0lt, mn_le0, mn_0le, mn_eqm, mn_meq, mn_ltm, mn_mlt, mn_lem, mn_mle, mn_mm1, mn_mm2, mn_mm3, mn_mm4, mn_mm5, mn_mm6, mn_and, mn_or, mn_an, mn_shl, mn_shr, mn_div, mn_rem, mn_clamp, mn_in, mn_inm, mn_nz, mn_zo, mn_min, mn_max, mn_abs, mn_rfit, mn_cp, mn_les, mn_gre, mn_a127, mn_a15, mn_a1, mn_a255, mn_tn0, mn_tn0e, mn_tnr, mn_tnz, mr_get, mr_ne, mr_put, mu_ne, mu_eq, mj_bk_i, mj_bk_v, mj_bk_x, decide_eq_true_eq, decide_true, decide_false, Bool.false_eq_true, Bool.true_eq_false, reduceCtorEq, mt_le_t, mt_le_f, mt_lt_t, mt_lt_f, mt_eq_t, mt_eq_f, mt_ee, not_true_eq_false, not_false_eq_true, and_true, true_and, and_self, Nat.zero_add, Nat.add_zero, Nat.one_mul, Nat.mul_one, Nat.reduceAdd, Nat.reduceMul, Nat.reduceSub, Nat.reducePow, Nat.reduceDiv, Nat.reduceMod, ↓reduceIte, mp_h, mp_w, mp_c, mp_s, mp_d, mp_n, mp_54, mp_52, mp_55, mp_l, mp_o, mp_42, mp_45, gh_gp, gw_gp, gc_gp, mw_pne, Nat.or_zero, q3, and_false]
        · refine ⟨l, ?_⟩
          simp (disch := first | assumption | exact hf _ | omega) only [b279, b279_0, b279_14, b279_28, b279_36, b279_41, b279_45, b279_49, b279_52, b279_55, b279_69, b279_75, b279_78, b279_84, b279_90, b279_94, b279_97, b279_99, b279_108, b279_114, nI_add, mn_mul, mn_sub, mn_m1, mn_m8, mn_eq, mn_lt, mn_le, mn_eq0, mn_0eq, mn_lt0, mn_0lt, mn_le0, mn_0le, mn_eqm, mn_meq, mn_ltm, mn_mlt, mn_lem, mn_mle, mn_mm1, mn_mm2, mn_mm3, mn_mm4, mn_mm5, mn_mm6, mn_and, mn_or, mn_an, mn_shl, mn_shr, mn_div, mn_rem, mn_clamp, mn_in, mn_inm, mn_nz, mn_zo, mn_min, mn_max, mn_abs, mn_rfit, mn_cp, mn_les, mn_gre, mn_a127, mn_a15, mn_a1, mn_a255, mn_tn0, mn_tn0e, mn_tnr, mn_tnz, mr_get, mr_ne, mr_put, mu_ne, mu_eq, mj_bk_i, mj_bk_v, mj_bk_x, decide_eq_true_eq, decide_true, decide_false, Bool.false_eq_true, Bool.true_eq_false, reduceCtorEq, mt_le_t, mt_le_f, mt_lt_t, mt_lt_f, mt_eq_t, mt_eq_f, mt_ee, not_true_eq_false, not_false_eq_true, and_true, true_and, and_self, Nat.zero_add, Nat.add_zero, Nat.one_mul, Nat.mul_one, Nat.reduceAdd, Nat.reduceMul, Nat.reduceSub, Nat.reducePow, Nat.reduceDiv, Nat.reduceMod, ↓reduceIte, mp_h, mp_w, mp_c, mp_s, mp_d, mp_n, mp_54, mp_52, mp_55, mp_l, mp_o, mp_42, mp_45, gh_gp, gw_gp, gc_gp, mw_pne, Nat.or_zero, q1, mo, c230 (show i < 1024 by omega), c230 hbi, q2, Option.some.injEq, forall_eq', false_and]
    · refine ⟨l, ?_⟩
      simp (disch := first | assumption | exact hf _ | omega) only [b279, b279_0, b279_14, b279_28, b279_36, b279_41, b279_45, b279_49, b279_52, b279_55, b279_69, b279_75, b279_78, b279_84, b279_90, b279_94, b279_97, b279_99, b279_108, b279_114, nI_add, mn_mul, mn_sub, mn_m1, mn_m8, mn_eq, mn_lt, mn_le, mn_eq0, mn_0eq, mn_lt0, mn_0lt, mn_le0, mn_0le, mn_eqm, mn_meq, mn_ltm, mn_mlt, mn_lem, mn_mle, mn_mm1, mn_mm2, mn_mm3, mn_mm4, mn_mm5, mn_mm6, mn_and, mn_or, mn_an, mn_shl, mn_shr, mn_div, mn_rem, mn_clamp, mn_in, mn_inm, mn_nz, mn_zo, mn_min, mn_max, mn_abs, mn_rfit, mn_cp, mn_les, mn_gre, mn_a127, mn_a15, mn_a1, mn_a255, mn_tn0, mn_tn0e, mn_tnr, mn_tnz, mr_get, mr_ne, mr_put, mu_ne, mu_eq, mj_bk_i, mj_bk_v, mj_bk_x, decide_eq_true_eq, decide_true, decide_false, Bool.false_eq_true, Bool.true_eq_false, reduceCtorEq, mt_le_t, mt_le_f, mt_lt_t, mt_lt_f, mt_eq_t, mt_eq_f, mt_ee, not_true_eq_false, not_false_eq_true, and_true, true_and, and_self, Nat.zero_add, Nat.add_zero, Nat.one_mul, Nat.mul_one, Nat.reduceAdd, Nat.reduceMul, Nat.reduceSub, Nat.reducePow, Nat.reduceDiv, Nat.reduceMod, ↓reduceIte, mp_h, mp_w, mp_c, mp_s, mp_d, mp_n, mp_54, mp_52, mp_55, mp_l, mp_o, mp_42, mp_45, gh_gp, gw_gp, gc_gp, mw_pne, Nat.or_zero, q1, false_and]) (a := none) (by intro b hb; cases hb) none (f 52 + 1) (Nat.le_refl _)
  refine e.trans ?_
  rw [dth_eq hw, b279_23]
  simp (disch := first | assumption | exact hf _ | omega) only [b279, b279_0, b279_14, b279_28, b279_36, b279_41, b279_45, b279_49, b279_52, b279_55, b279_69, b279_75, b279_78, b279_84, b279_90, b279_94, b279_97, b279_99, b279_108, b279_114, nI_add, mn_mul, mn_sub, mn_m1, mn_m8, mn_eq, mn_lt, mn_le, mn_eq0, mn_0eq, mn_lt0, mn_0lt, mn_le0, mn_0le, mn_eqm, mn_meq, mn_ltm, mn_mlt, mn_lem, mn_mle, mn_mm1, mn_mm2, mn_mm3, mn_mm4, mn_mm5, mn_mm6, mn_and, mn_or, mn_an, mn_shl, mn_shr, mn_div, mn_rem, mn_clamp, mn_in, mn_inm, mn_nz, mn_zo, mn_min, mn_max, mn_abs, mn_rfit, mn_cp, mn_les, mn_gre, mn_a127, mn_a15, mn_a1, mn_a255, mn_tn0, mn_tn0e, mn_tnr, mn_tnz, mr_get, mr_ne, mr_put, mu_ne, mu_eq, mj_bk_i, mj_bk_v, mj_bk_x, decide_eq_true_eq, decide_true, decide_false, Bool.false_eq_true, Bool.true_eq_false, reduceCtorEq, mt_le_t, mt_le_f, mt_lt_t, mt_lt_f, mt_eq_t, mt_eq_f, mt_ee, not_true_eq_false, not_false_eq_true, and_true, true_and, and_self, Nat.zero_add, Nat.add_zero, Nat.one_mul, Nat.mul_one, Nat.reduceAdd, Nat.reduceMul, Nat.reduceSub, Nat.reducePow, Nat.reduceDiv, Nat.reduceMod, ↓reduceIte, mp_h, mp_w, mp_c, mp_s, mp_d, mp_n, mp_54, mp_52, mp_55, mp_l, mp_o, mp_42, mp_45, gh_gp, gw_gp, gc_gp, mw_pne, Nat.or_zero]
  rfl
def m347 (a : Nat) : Prop := a = 63 ∨ a = 64 ∨ a = 70
theorem c295 {L : Nat} (hw : wf f L) (hq : rM s Q) (ho : rOK Q) (h54 : f 54 ≤ 999) (hS : SM s σ) (hO : sOK σ) : ∃ t, mj_call X (d + 6) 295 [.ref 42] (mw_U (mp s f)) = some (.inl (some (.int (nI (asB Q f σ).toNat))), mw_U (mp t f)) ∧ mg s t m347 := by
  obtain ⟨t0, e0, r0, p0⟩ := c251 (X := X) (d := d + 5) (s := s) (f := f) (K := 70) (off := 0) mw_r_70 (by unfold mpx; omega) (by decide) (by decide)
  have g0 : mg s t0 m347 := ⟨r0.1, fun a ha => by funext b; exact r0.2 a b (fun z => absurd (Or.inr (Or.inr z)) ha)⟩
  have m3 : ∀ a, m34 a → m347 a := fun a h => by unfold m34 at h; unfold m347; omega
  have hS0 : ∀ {t : mw_S}, mg s t m347 → SM t σ := fun h => SM_mg hS h (by unfold m347; omega) (by unfold m347; omega) (by unfold m347; omega) (by unfold m347; omega)
  have hq0 : ∀ {t : mw_S}, mg s t m347 → rM t Q := fun h => rM_mg hq h (by unfold m347; omega) (by unfold m347; omega) (by unfold m347; omega)
  have hl := lst_le hO
  have hn := hO.1
  -- the last week
  have loop1 : ∀ l3 l4, mj_exec X (d + 6) 295 13 [some (.ref 42), some (.int (nI 0)), some (.int (nI 0)), l3, l4] [] (mw_U (mp t0 f)) = mj_exec X (d + 6) 295 42 [some (.ref 42), some (.int (nI (lst σ))), some (.int (nI 1)), some (.int (nI 0)), l4] [] (mw_U (mp t0 f)) := by
    intro l3 l4
    have hs := hS0 g0
    obtain ⟨hI, g_, e⟩ := mr_for (E := fun k c (_ : Unit) => mj_exec X (d + 6) 295 13 [some (.ref 42), some (.int (nI c)), some (.int (nI k)), l3, l4] [] (mw_U (mp t0 f))) (F := fun k c => max c (σ.2.1 k)) (I := fun _ c => c ≤ 20) (N := σ.2.2.2) (by
      intro k c _ hk hc
      have h2 := (hO.2 k hk).2.1
      have hs1 := hs.1
      have hs2 := (hs.2 k hk).2.1
      refine ⟨by omega, (), ?_⟩
      rw [b295_13]
      simp (disch := first | assumption | exact hf _ | omega) only [b295, b295_0, b295_9, b295_21, b295_38, b295_47, b295_51, b295_63, b295_67, b295_78, b295_100, b295_104, b295_105, b295_112, b295_116, b295_122, b295_131, nI_add, mn_mul, mn_sub, mn_m1, mn_m8, mn_eq, mn_lt, mn_le, mn_eq0, mn_0eq, mn_lt0, mn_0lt, mn_le0, mn_0le, mn_eqm, mn_meq, mn_ltm, mn_mlt, mn_lem, mn_mle, mn_mm1, mn_mm2, mn_mm3, mn_mm4, mn_mm5, mn_mm6, mn_and, mn_or, mn_an, mn_shl, mn_shr, mn_div, mn_rem, mn_clamp, mn_in, mn_inm, mn_nz, mn_zo, mn_min, mn_max, mn_abs, mn_rfit, mn_cp, mn_les, mn_gre, mn_a127, mn_a15, mn_a1, mn_a255, mn_tn0, mn_tn0e, mn_tnr, mn_tnz, mr_get, mr_ne, mr_put, mu_ne, mu_eq, mj_bk_i, mj_bk_v, mj_bk_x, decide_eq_true_eq, decide_true, decide_false, Bool.false_eq_true, Bool.true_eq_false, reduceCtorEq, mt_le_t, mt_le_f, mt_lt_t, mt_lt_f, mt_eq_t, mt_eq_f, mt_ee, not_true_eq_false, not_false_eq_true, and_true, true_and, and_self, Nat.zero_add, Nat.add_zero, Nat.one_mul, Nat.mul_one, Nat.reduceAdd, Nat.reduceMul, Nat.reduceSub, Nat.reducePow, Nat.reduceDiv, Nat.reduceMod, ↓reduceIte, mp_h, mp_w, mp_c, mp_s, mp_d, mp_n, mp_54, mp_52, mp_55, mp_l, mp_o, mp_42, mp_45, gh_gp, gw_gp, gc_gp, mw_pne, Nat.or_zero, hs1, hs2]) (a := 0) (by decide) () σ.2.2.2 (Nat.le_refl _)
    refine e.trans ?_
    have hs1 := hs.1
    rw [b295_13]
    simp (disch := first | assumption | exact hf _ | omega) only [mp_42, hs1, mn_le, mt_le_t, Nat.le_refl, ↓reduceIte, b295_38]
    rfl
  -- one week
  have week : ∀ w t l4, w ≤ 20 → mg s t m347 → mj_exec X (d + 6) 295 51 [some (.ref 42), some (.int (nI (lst σ))), some (.int (nI 1)), some (.int (nI w)), l4] [] (mw_U (mp t (fwks Q f w))) = mj_exec X (d + 6) 295 112 [some (.ref 42), some (.int (nI (lst σ))), some (.int (nI (aw Q f σ w).toNat)), some (.int (nI w)), some (.int (nI σ.2.2.2))] [] (mw_U (mp t (fwks Q f w))) := by
    intro w t l4 hw20 ht
    have hs := hS0 ht
    have hs1 := hs.1
    obtain ⟨hI, g_, e⟩ := mr_for (E := fun k (b : Bool) (_ : Unit) => mj_exec X (d + 6) 295 54 [some (.ref 42), some (.int (nI (lst σ))), some (.int (nI b.toNat)), some (.int (nI w)), some (.int (nI k))] [] (mw_U (mp t (fwks Q f w)))) (F := fun k b => b && decide (σ.2.1 k = w → fh (fwks Q f w) (σ.1 k) = σ.2.2.1 k)) (I := fun _ _ => True) (N := σ.2.2.2) (by
      intro k b _ hk _
      obtain ⟨o1, o2, o3⟩ := hO.2 k hk
      obtain ⟨s1, s2, s3⟩ := hs.2 k hk
      have hlg := mn_lg o1
      have hg := gp_lt (show mn_l (σ.1 k) < 8 by omega) hlg.2
      have hb := fh_lt (fwks Q f w) (σ.1 k)
      refine ⟨trivial, (), ?_⟩
      rw [b295_54]
      cases b
      · simp (disch := first | assumption | exact hf _ | omega) only [b295, b295_0, b295_9, b295_21, b295_38, b295_47, b295_51, b295_63, b295_67, b295_78, b295_100, b295_104, b295_105, b295_112, b295_116, b295_122, b295_131, nI_add, mn_mul, mn_sub, mn_m1, mn_m8, mn_eq, mn_lt, mn_le, mn_eq0, mn_0eq, mn_lt0, mn_0lt, mn_le0, mn_0le, mn_eqm, mn_meq, mn_ltm, mn_mlt, mn_lem, mn_mle, mn_mm1, mn_mm2, mn_mm3, mn_mm4, mn_mm5, mn_mm6, mn_and, mn_or, mn_an, mn_shl, mn_shr, mn_div, mn_rem, mn_clamp, mn_in, mn_inm, mn_nz, mn_zo, mn_min, mn_max, mn_abs, mn_rfit, mn_cp, mn_les, mn_gre, mn_a127, mn_a15, mn_a1, mn_a255, mn_tn0, mn_tn0e, mn_tnr, mn_tnz, mr_get, mr_ne, mr_put, mu_ne, mu_eq, mj_bk_i, mj_bk_v, mj_bk_x, decide_eq_true_eq, decide_true, decide_false, Bool.false_eq_true, Bool.true_eq_false, reduceCtorEq, mt_le_t, mt_le_f, mt_lt_t, mt_lt_f, mt_eq_t, mt_eq_f, mt_ee, not_true_eq_false, not_false_eq_true, and_true, true_and, and_self, Nat.zero_add, Nat.add_zero, Nat.one_mul, Nat.mul_one, Nat.reduceAdd, Nat.reduceMul, Nat.reduceSub, Nat.reducePow, Nat.reduceDiv, Nat.reduceMod, ↓reduceIte, mp_h, mp_w, mp_c, mp_s, mp_d, mp_n, mp_54, mp_52, mp_55, mp_l, mp_o, mp_42, mp_45, gh_gp, gw_gp, gc_gp, mw_pne, Nat.or_zero, hs1, Bool.toNat_false, Bool.false_and]
      · by_cases h1 : σ.2.1 k = w
        · by_cases h2 : fh (fwks Q f w) (σ.1 k) = σ.2.2.1 k
          · simp (disch := first | assumption | exact hf _ | omega) only [b295, b295_0, b295_9, b295_21, b295_38, b295_47, b295_51, b295_63, b295_67, b295_78, b295_100, b295_104, b295_105, b295_112, b295_116, b295_122, b295_131, nI_add, mn_mul, mn_sub, mn_m1, mn_m8, mn_eq, mn_lt, mn_le, mn_eq0, mn_0eq, mn_lt0, mn_0lt, mn_le0, mn_0le, mn_eqm, mn_meq, mn_ltm, mn_mlt, mn_lem, mn_mle, mn_mm1, mn_mm2, mn_mm3, mn_mm4, mn_mm5, mn_mm6, mn_and, mn_or, mn_an, mn_shl, mn_shr, mn_div, mn_rem, mn_clamp, mn_in, mn_inm, mn_nz, mn_zo, mn_min, mn_max, mn_abs, mn_rfit, mn_cp, mn_les, mn_gre, mn_a127, mn_a15, mn_a1, mn_a255, mn_tn0, mn_tn0e, mn_tnr, mn_tnz, mr_get, mr_ne, mr_put, mu_ne, mu_eq, mj_bk_i, mj_bk_v, mj_bk_x, decide_eq_true_eq, decide_true, decide_false, Bool.false_eq_true, Bool.true_eq_false, reduceCtorEq, mt_le_t, mt_le_f, mt_lt_t, mt_lt_f, mt_eq_t, mt_eq_f, mt_ee, not_true_eq_false, not_false_eq_true, and_true, true_and, and_self, Nat.zero_add, Nat.add_zero, Nat.one_mul, Nat.mul_one, Nat.reduceAdd, Nat.reduceMul, Nat.reduceSub, Nat.reducePow, Nat.reduceDiv, Nat.reduceMod, ↓reduceIte, mp_42, hs1, Bool.toNat_true, mp_o, s2, h1, s1, s3, mp_h, gh_i o1, h2, imp_self, Bool.and_self, forall_const]
          · simp (disch := first | assumption | exact hf _ | omega) only [b295, b295_0, b295_9, b295_21, b295_38, b295_47, b295_51, b295_63, b295_67, b295_78, b295_100, b295_104, b295_105, b295_112, b295_116, b295_122, b295_131, nI_add, mn_mul, mn_sub, mn_m1, mn_m8, mn_eq, mn_lt, mn_le, mn_eq0, mn_0eq, mn_lt0, mn_0lt, mn_le0, mn_0le, mn_eqm, mn_meq, mn_ltm, mn_mlt, mn_lem, mn_mle, mn_mm1, mn_mm2, mn_mm3, mn_mm4, mn_mm5, mn_mm6, mn_and, mn_or, mn_an, mn_shl, mn_shr, mn_div, mn_rem, mn_clamp, mn_in, mn_inm, mn_nz, mn_zo, mn_min, mn_max, mn_abs, mn_rfit, mn_cp, mn_les, mn_gre, mn_a127, mn_a15, mn_a1, mn_a255, mn_tn0, mn_tn0e, mn_tnr, mn_tnz, mr_get, mr_ne, mr_put, mu_ne, mu_eq, mj_bk_i, mj_bk_v, mj_bk_x, decide_eq_true_eq, decide_true, decide_false, Bool.false_eq_true, Bool.true_eq_false, reduceCtorEq, mt_le_t, mt_le_f, mt_lt_t, mt_lt_f, mt_eq_t, mt_eq_f, mt_ee, not_true_eq_false, not_false_eq_true, and_true, true_and, and_self, Nat.zero_add, Nat.add_zero, Nat.one_mul, Nat.mul_one, Nat.reduceAdd, Nat.reduceMul, Nat.reduceSub, Nat.reducePow, Nat.reduceDiv, Nat.reduceMod, ↓reduceIte, mp_42, hs1, Bool.toNat_true, Bool.toNat_false, mp_o, s2, h1, s1, s3, mp_h, gh_i o1, h2, imp_false, Bool.and_false]
        · simp (disch := first | assumption | exact hf _ | omega) only [b295, b295_0, b295_9, b295_21, b295_38, b295_47, b295_51, b295_63, b295_67, b295_78, b295_100, b295_104, b295_105, b295_112, b295_116, b295_122, b295_131, nI_add, mn_mul, mn_sub, mn_m1, mn_m8, mn_eq, mn_lt, mn_le, mn_eq0, mn_0eq, mn_lt0, mn_0lt, mn_le0, mn_0le, mn_eqm, mn_meq, mn_ltm, mn_mlt, mn_lem, mn_mle, mn_mm1, mn_mm2, mn_mm3, mn_mm4, mn_mm5, mn_mm6, mn_and, mn_or, mn_an, mn_shl, mn_shr, mn_div, mn_rem, mn_clamp, mn_in, mn_inm, mn_nz, mn_zo, mn_min, mn_max, mn_abs, mn_rfit, mn_cp, mn_les, mn_gre, mn_a127, mn_a15, mn_a1, mn_a255, mn_tn0, mn_tn0e, mn_tnr, mn_tnz, mr_get, mr_ne, mr_put, mu_ne, mu_eq, mj_bk_i, mj_bk_v, mj_bk_x, decide_eq_true_eq, decide_true, decide_false, Bool.false_eq_true, Bool.true_eq_false, reduceCtorEq, mt_le_t, mt_le_f, mt_lt_t, mt_lt_f, mt_eq_t, mt_eq_f, mt_ee, not_true_eq_false, not_false_eq_true, and_true, true_and, and_self, Nat.zero_add, Nat.add_zero, Nat.one_mul, Nat.mul_one, Nat.reduceAdd, Nat.reduceMul, Nat.reduceSub, Nat.reducePow, Nat.reduceDiv, Nat.reduceMod, ↓reduceIte, mp_h, mp_w, mp_c, mp_s, mp_d, mp_n, mp_54, mp_52, mp_55, mp_l, mp_o, mp_42, mp_45, gh_gp, gw_gp, gc_gp, mw_pne, Nat.or_zero, hs1, Bool.toNat_true, s2, h1, false_implies, Bool.and_self]) (a := true) trivial () σ.2.2.2 (Nat.le_refl _)
    have ea : ∀ n, mr_it (fun k (b : Bool) => b && decide (σ.2.1 k = w → fh (fwks Q f w) (σ.1 k) = σ.2.2.1 k)) n true = decide (∀ k, k < n → σ.2.1 k = w → fh (fwks Q f w) (σ.1 k) = σ.2.2.1 k) := by
      intro n
      induction n with
      | zero => rw [decide_eq_true (fun k hk => by omega)]; rfl
      | succ n ih =>
        rw [mr_it, ih, Bool.eq_iff_iff, Bool.and_eq_true, decide_eq_true_eq, decide_eq_true_eq, decide_eq_true_eq]
        constructor
        · rintro ⟨h1, h2⟩ k hk
          by_cases he : k = n
          · subst he; exact h2
          · exact h1 k (by omega)
        · intro h; exact ⟨fun k hk => h k (by omega), h n (by omega)⟩
    rw [b295_51]
    refine e.trans ?_
    rw [ea, b295_54]
    simp (disch := first | assumption | exact hf _ | omega) only [mp_42, hs1, mn_le, mt_le_t, Nat.le_refl, ↓reduceIte]
    rfl
  have srch := mr_srch (γ := mw_S × Option Value) (E := fun w t => mj_exec X (d + 6) 295 42 [some (.ref 42), some (.int (nI (lst σ))), some (.int (nI 1)), some (.int (nI w)), t.2] [] (mw_U (mp t.1 (fwks Q f w)))) (P := fun w => !(aw Q f σ w)) (I := fun _ t => mg s t.1 m347 ∧ mg t0 t.1 m34) (N := lst σ + 1) (by
    intro w t hwl hP ht
    obtain ⟨t, l4⟩ := t
    obtain ⟨ht, htt⟩ := ht
    dsimp only at ht htt ⊢
    have hP : aw Q f σ w = true := by simpa using hP
    have ew := week w t l4 (by omega) ht
    obtain ⟨t2, e2, g2⟩ := c253 (X := X) (d := d) (s := t) (f := fwks Q f w) (wf_wks hw w (by omega)) (hq0 ht) ho (by rw [fwks_54]; omega)
    refine ⟨(t2, some (.int (nI σ.2.2.2))), ⟨mg_trans ht (mg_mono g2 m3), mg_trans htt g2⟩, ?_⟩
    rw [b295_42]
    rw [hP] at ew
    simp (disch := first | assumption | exact hf _ | omega) only [mn_lt, mt_lt_f, ↓reduceIte, b295_47, mn_eq0, mt_eq_f, ew, Bool.toNat_true, b295_112, e2, mj_bk_v, b295_116, nI_add]
    rfl) (g := (t0, none)) ⟨g0, mg_refl⟩
  have start : mj_call X (d + 6) 295 [.ref 42] (mw_U (mp s f)) = mj_exec X (d + 6) 295 42 [some (.ref 42), some (.int (nI (lst σ))), some (.int (nI 1)), some (.int (nI 0)), none] [] (mw_U (mp t0 f)) := by
    rw [b295]
    simp (disch := first | assumption | exact hf _ | omega) only [b295_0, e0, mj_bk_v, b295_9]
    exact loop1 _ _
  have back : ∀ u g, mg t0 u m34 → sst f g → mj_call X (d + 5) 268 [.ref 42, .ref 70, .int (nI 0)] (mw_U (mp u g)) = some (.inl none, mw_U (mp u f)) := fun u g hu hs => c268 mw_r_70 (by unfold mpx; omega) (by decide) (by decide) (hasP_mg p0 hu (by unfold m34; omega)) hs
  rw [start]
  rcases first_or (fun w => !(aw Q f σ w)) (lst σ + 1) with ⟨w, hwl, hP, hmin⟩ | hall
  · obtain ⟨t, ⟨ht, htt⟩, e⟩ := srch w (by omega) hmin
    obtain ⟨t, l4⟩ := t
    dsimp only at ht htt e
    have hP : aw Q f σ w = false := by simpa using hP
    have hF : asB Q f σ = false := by
      cases h : asB Q f σ
      · rfl
      · have := asB_w.mp h w hwl
        rw [hP] at this; cases this
    have ew := week w t l4 (by omega) ht
    obtain ⟨t2, e2, g2⟩ := c253 (X := X) (d := d) (s := t) (f := fwks Q f w) (wf_wks hw w (by omega)) (hq0 ht) ho (by rw [fwks_54]; omega)
    refine ⟨t2, ?_, mg_trans ht (mg_mono g2 m3)⟩
    have eb := back t2 (fwk Q (fwks Q f w)) (mg_trans htt g2) (sst_wks (k := w + 1))
    refine e.trans ?_
    rw [hP] at ew
    rw [b295_42, hF]
    have fin : ∀ v, mj_exec X (d + 6) 295 42 [some (.ref 42), some (.int (nI (lst σ))), some (.int (nI 0)), some (.int v), some (.int (nI σ.2.2.2))] [] (mw_U (mp t2 (fwk Q (fwks Q f w)))) = some (.inl (some (.int (nI 0))), mw_U (mp t2 f)) := by
      intro v
      rw [b295_42]
      by_cases hv : nI (lst σ) < v
      · simp (disch := first | assumption | exact hf _ | omega) only [b295, b295_0, b295_9, b295_21, b295_38, b295_47, b295_51, b295_63, b295_67, b295_78, b295_100, b295_104, b295_105, b295_112, b295_116, b295_122, b295_131, nI_add, mn_mul, mn_sub, mn_m1, mn_m8, mn_eq, mn_lt, mn_le, mn_eq0, mn_0eq, mn_lt0, mn_0lt, mn_le0, mn_0le, mn_eqm, mn_meq, mn_ltm, mn_mlt, mn_lem, mn_mle, mn_mm1, mn_mm2, mn_mm3, mn_mm4, mn_mm5, mn_mm6, mn_and, mn_or, mn_an, mn_shl, mn_shr, mn_div, mn_rem, mn_clamp, mn_in, mn_inm, mn_nz, mn_zo, mn_min, mn_max, mn_abs, mn_rfit, mn_cp, mn_les, mn_gre, mn_a127, mn_a15, mn_a1, mn_a255, mn_tn0, mn_tn0e, mn_tnr, mn_tnz, mr_get, mr_ne, mr_put, mu_ne, mu_eq, mj_bk_i, mj_bk_v, mj_bk_x, decide_eq_true_eq, decide_true, decide_false, Bool.false_eq_true, Bool.true_eq_false, reduceCtorEq, mt_le_t, mt_le_f, mt_lt_t, mt_lt_f, mt_eq_t, mt_eq_f, mt_ee, not_true_eq_false, not_false_eq_true, and_true, true_and, and_self, Nat.zero_add, Nat.add_zero, Nat.one_mul, Nat.mul_one, Nat.reduceAdd, Nat.reduceMul, Nat.reduceSub, Nat.reducePow, Nat.reduceDiv, Nat.reduceMod, ↓reduceIte, mp_h, mp_w, mp_c, mp_s, mp_d, mp_n, mp_54, mp_52, mp_55, mp_l, mp_o, mp_42, mp_45, gh_gp, gw_gp, gc_gp, mw_pne, Nat.or_zero, hv, eb]
      · simp (disch := first | assumption | exact hf _ | omega) only [b295, b295_0, b295_9, b295_21, b295_38, b295_47, b295_51, b295_63, b295_67, b295_78, b295_100, b295_104, b295_105, b295_112, b295_116, b295_122, b295_131, nI_add, mn_mul, mn_sub, mn_m1, mn_m8, mn_eq, mn_lt, mn_le, mn_eq0, mn_0eq, mn_lt0, mn_0lt, mn_le0, mn_0le, mn_eqm, mn_meq, mn_ltm, mn_mlt, mn_lem, mn_mle, mn_mm1, mn_mm2, mn_mm3, mn_mm4, mn_mm5, mn_mm6, mn_and, mn_or, mn_an, mn_shl, mn_shr, mn_div, mn_rem, mn_clamp, mn_in, mn_inm, mn_nz, mn_zo, mn_min, mn_max, mn_abs, mn_rfit, mn_cp, mn_les, mn_gre, mn_a127, mn_a15, mn_a1, mn_a255, mn_tn0, mn_tn0e, mn_tnr, mn_tnz, mr_get, mr_ne, mr_put, mu_ne, mu_eq, mj_bk_i, mj_bk_v, mj_bk_x, decide_eq_true_eq, decide_true, decide_false, Bool.false_eq_true, Bool.true_eq_false, reduceCtorEq, mt_le_t, mt_le_f, mt_lt_t, mt_lt_f, mt_eq_t, mt_eq_f, mt_ee, not_true_eq_false, not_false_eq_true, and_true, true_and, and_self, Nat.zero_add, Nat.add_zero, Nat.one_mul, Nat.mul_one, Nat.reduceAdd, Nat.reduceMul, Nat.reduceSub, Nat.reducePow, Nat.reduceDiv, Nat.reduceMod, ↓reduceIte, mp_h, mp_w, mp_c, mp_s, mp_d, mp_n, mp_54, mp_52, mp_55, mp_l, mp_o, mp_42, mp_45, gh_gp, gw_gp, gc_gp, mw_pne, Nat.or_zero, hv, eb]
    simp (disch := first | assumption | exact hf _ | omega) only [mn_lt, mt_lt_f, ↓reduceIte, b295_47, mn_eq0, mt_eq_f, ew, Bool.toNat_false, b295_112, e2, mj_bk_v, b295_116, nI_add, fin]
  · obtain ⟨t, ⟨ht, htt⟩, e⟩ := srch (lst σ + 1) (Nat.le_refl _) hall
    obtain ⟨t, l4⟩ := t
    dsimp only at ht htt e
    have hT : asB Q f σ = true := asB_w.mpr (fun w hwl => by have := hall w hwl; simpa using this)
    refine ⟨t, ?_, ht⟩
    have eb := back t (fwks Q f (lst σ + 1)) htt sst_wks
    refine e.trans ?_
    rw [b295_42, hT]
    simp (disch := first | assumption | exact hf _ | omega) only [b295, b295_0, b295_9, b295_21, b295_38, b295_47, b295_51, b295_63, b295_67, b295_78, b295_100, b295_104, b295_105, b295_112, b295_116, b295_122, b295_131, nI_add, mn_mul, mn_sub, mn_m1, mn_m8, mn_eq, mn_lt, mn_le, mn_eq0, mn_0eq, mn_lt0, mn_0lt, mn_le0, mn_0le, mn_eqm, mn_meq, mn_ltm, mn_mlt, mn_lem, mn_mle, mn_mm1, mn_mm2, mn_mm3, mn_mm4, mn_mm5, mn_mm6, mn_and, mn_or, mn_an, mn_shl, mn_shr, mn_div, mn_rem, mn_clamp, mn_in, mn_inm, mn_nz, mn_zo, mn_min, mn_max, mn_abs, mn_rfit, mn_cp, mn_les, mn_gre, mn_a127, mn_a15, mn_a1, mn_a255, mn_tn0, mn_tn0e, mn_tnr, mn_tnz, mr_get, mr_ne, mr_put, mu_ne, mu_eq, mj_bk_i, mj_bk_v, mj_bk_x, decide_eq_true_eq, decide_true, decide_false, Bool.false_eq_true, Bool.true_eq_false, reduceCtorEq, mt_le_t, mt_le_f, mt_lt_t, mt_lt_f, mt_eq_t, mt_eq_f, mt_ee, not_true_eq_false, not_false_eq_true, and_true, true_and, and_self, Nat.zero_add, Nat.add_zero, Nat.one_mul, Nat.mul_one, Nat.reduceAdd, Nat.reduceMul, Nat.reduceSub, Nat.reducePow, Nat.reduceDiv, Nat.reduceMod, ↓reduceIte, mp_h, mp_w, mp_c, mp_s, mp_d, mp_n, mp_54, mp_52, mp_55, mp_l, mp_o, mp_42, mp_45, gh_gp, gw_gp, gc_gp, mw_pne, Nat.or_zero, eb, Bool.toNat_true]
end
