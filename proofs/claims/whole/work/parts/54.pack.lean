/-! the reference's rows of what was -/
def pk (f : Nat → Nat) (j : Nat) : Int32 := if j = 0 then nI (f 54) else if j = 1 then nI (f 52) else if j < 10 then sp f (j - 2) else if j < 18 then nI (f (8 + (j - 10))) else if j < 82 then nI (gh f (j - 18)) else if j < 146 then nI (gw f (j - 82)) else nI (gc f (j - 146))
def rgn (s t : mw_S) (K off : Nat) : Prop := t.2 = s.2 ∧ ∀ a b, (a = K → b < off ∨ off + 210 ≤ b) → t.1 a b = s.1 a b
theorem rgn_refl {s : mw_S} {K off : Nat} : rgn s s K off := ⟨rfl, fun _ _ _ => rfl⟩
theorem rgn_p {s t : mw_S} {K off j : Nat} {v : Int32} (h : rgn s t K off) (h1 : off ≤ j) (h2 : j < off + 210) : rgn s (mw_p t K j v) K off := ⟨h.1, fun a b hab => by
  rw [← h.2 a b hab]
  exact if_neg (fun z => by have := hab z.1; omega)⟩
def hasP (t : mw_S) (K off : Nat) (f : Nat → Nat) (D : Nat → Prop) : Prop := ∀ j, j < 210 → D j → t.1 K (off + j) = pk f j
theorem hasP_p {t : mw_S} {K off j : Nat} {f : Nat → Nat} {D D' : Nat → Prop} {v : Int32} {k : Nat} (h : hasP t K off f D) (hk : k = off + j) (hv : v = pk f j) (hD : ∀ i, i < 210 → D' i → D i ∨ i = j) : hasP (mw_p t K k v) K off f D' := by
  subst hk
  intro i hi hd
  rw [mw_p1]
  by_cases he : i = j
  · rw [if_pos ⟨rfl, by rw [he]⟩, he, hv]
  · rw [if_neg (fun z => by omega)]
    rcases hD i hi hd with h1 | h1
    · exact h i hi h1
    · exact absurd h1 he
theorem it_u {f g : Nat → Nat} {o : Nat} : ∀ (n j : Nat), mr_it (fun i g => mr_u g (o + i) (f (o + i))) n g j = if o ≤ j ∧ j < o + n then f j else g j
  | 0, j => by rw [if_neg (by omega)]; rfl
  | n + 1, j => by
    show mr_u (mr_it (fun i g => mr_u g (o + i) (f (o + i))) n g) (o + n) (f (o + n)) j = _
    unfold mr_u
    have := it_u (f := f) (g := g) (o := o) n j
    unfold mr_u at this
    by_cases he : j = o + n
    · rw [if_pos he, if_pos (by omega), he]
    · rw [if_neg he, this]
      by_cases h2 : o ≤ j ∧ j < o + n
      · rw [if_pos h2, if_pos (by omega)]
      · rw [if_neg h2, if_neg (by omega)]
def sst (f g : Nat → Nat) : Prop := (∀ j, j < 8 → f j = g j) ∧ f 53 = g 53 ∧ f 55 = g 55 ∧ f 64 = g 64
section
variable {X : mj_X} {d : Nat} {s : mw_S} {f : Nat → Nat} {K n1 off : Nat}
theorem c251 (hK : mw_rw K = some (.int, n1)) (hKx : mpx K) (ho : off + 210 ≤ n1) (hn : n1 < 100000) : ∃ t, mj_call X d 251 [.ref 42, .ref K, .int (nI off)] (mw_U (mp s f)) = some (.inl none, mw_U (mp t f)) ∧ rgn s t K off ∧ hasP t K off f (fun _ => True) := by
  have hKx' := hKx
  unfold mpx at hKx'
  have hKw : ∀ {t : mw_S} {j : Nat} {v : Int32}, mw_p (mp t f) K j v = mp (mw_p t K j v) f := mp_wo (Or.inl hKx)
  have n57 : ¬ 57 = K := by omega
  have n58 : ¬ 58 = K := by omega
  have n59 : ¬ 59 = K := by omega
  have n60 : ¬ 60 = K := by omega
  have n61 : ¬ 61 = K := by omega
  have n42 : ¬ 42 = K := by omega
  rw [b251]
  have hp0 : hasP (mw_p s K off (nI (f 54))) K off f (fun j => j < 1) := hasP_p (D := fun _ => False) (j := 0) (fun _ _ h => h.elim) rfl rfl (fun i _ h => Or.inr (by omega))
  have hp1 : hasP (mw_p (mw_p s K off (nI (f 54))) K (off + 1) (nI (f 52))) K off f (fun j => j < 2) := hasP_p hp0 rfl rfl (fun i _ h => by omega)
  obtain ⟨t1, ⟨h1, hp2⟩, e1⟩ := mr_forg (α := Unit) (γ := mw_S) (E := fun i _ t => mj_exec X d 251 23 [some (.ref 42), some (.ref K), some (.int (nI off)), some (.int (nI (off + 2))), some (.int (nI i))] [] (mw_U (mp t f))) (F := fun _ a => a) (I := fun i _ t => rgn s t K off ∧ hasP t K off f (fun j => j < 2 + i ∨ (10 ≤ j ∧ j < 10 + i))) (N := 8) (by
    intro i _ t hi ⟨h1, hp⟩
    refine ⟨mw_p (mw_p t K (off + 2 + i) (sp f i)) K (off + 2 + 8 + i) (nI (f (8 + i))), ⟨rgn_p (rgn_p h1 (by omega) (by omega)) (by omega) (by omega), ?_⟩, ?_⟩
    · refine hasP_p (j := 10 + i) (hasP_p (j := 2 + i) (D' := fun j => j < 2 + (i + 1) ∨ (10 ≤ j ∧ j < 10 + i)) hp (by omega) ?_ (fun k _ h => by omega)) (by omega) ?_ (fun k _ h => by omega)
      · unfold pk; rw [if_neg (by omega), if_neg (by omega), if_pos (by omega)]; congr 2; omega
      · unfold pk; rw [if_neg (by omega), if_neg (by omega), if_neg (by omega), if_pos (by omega)]; congr 2; omega
    · rw [b251_23 hK]
      simp (disch := first | assumption | exact hf _ | omega) only [b251, b251_0, b251_30, b251_65, b251_78, b251_130, nI_add, mn_mul, mn_sub, mn_m1, mn_m8, mn_eq, mn_lt, mn_le, mn_eq0, mn_0eq, mn_lt0, mn_0lt, mn_le0, mn_0le, mn_eqm, mn_meq, mn_ltm, mn_mlt, mn_lem, mn_mle, mn_mm1, mn_mm2, mn_mm3, mn_mm4, mn_mm5, mn_mm6, mn_and, mn_or, mn_an, mn_shl, mn_shr, mn_div, mn_rem, mn_clamp, mn_in, mn_inm, mn_nz, mn_zo, mn_min, mn_max, mn_abs, mn_rfit, mn_cp, mn_les, mn_gre, mn_a127, mn_a15, mn_a1, mn_a255, mn_tn0, mn_tn0e, mn_tnr, mn_tnz, mr_get, mr_ne, mr_put, mu_ne, mu_eq, mj_bk_i, mj_bk_v, mj_bk_x, decide_eq_true_eq, decide_true, decide_false, Bool.false_eq_true, Bool.true_eq_false, reduceCtorEq, mt_le_t, mt_le_f, mt_lt_t, mt_lt_f, mt_eq_t, mt_eq_f, mt_ee, not_true_eq_false, not_false_eq_true, and_true, true_and, and_self, Nat.zero_add, Nat.add_zero, Nat.one_mul, Nat.mul_one, Nat.reduceAdd, Nat.reduceMul, Nat.reduceSub, Nat.reducePow, Nat.reduceDiv, Nat.reduceMod, ↓reduceIte, mp_h, mp_w, mp_c, mp_s, mp_d, mp_n, mp_54, mp_52, mp_55, mp_l, mp_o, mp_42, mp_45, gh_gp, gw_gp, gc_gp, mw_pne, Nat.or_zero, hKw, mp_sp]) (a := ()) (g := mw_p (mw_p s K off (nI (f 54))) K (off + 1) (nI (f 52))) ⟨rgn_p (rgn_p rgn_refl (by omega) (by omega)) (by omega) (by omega), fun j hj h => hp1 j hj (by omega)⟩ 8 (Nat.le_refl 8)
  obtain ⟨t2, ⟨h2, hp3⟩, e2⟩ := mr_forg (α := Unit) (γ := mw_S) (E := fun i _ t => mj_exec X d 251 71 [some (.ref 42), some (.ref K), some (.int (nI off)), some (.int (nI (off + 18))), some (.int (nI i))] [] (mw_U (mp t f))) (F := fun _ a => a) (I := fun i _ t => rgn s t K off ∧ hasP t K off f (fun j => j < 18 + i ∨ (82 ≤ j ∧ j < 82 + i) ∨ (146 ≤ j ∧ j < 146 + i))) (N := 64) (by
    intro i _ t hi ⟨h1, hp⟩
    refine ⟨mw_p (mw_p (mw_p t K (off + 18 + i) (nI (gh f i))) K (off + 18 + 64 + i) (nI (gw f i))) K (off + 18 + 128 + i) (nI (gc f i)), ⟨rgn_p (rgn_p (rgn_p h1 (by omega) (by omega)) (by omega) (by omega)) (by omega) (by omega), ?_⟩, ?_⟩
    · refine hasP_p (j := 146 + i) (hasP_p (j := 82 + i) (D' := fun j => j < 18 + (i + 1) ∨ (82 ≤ j ∧ j < 82 + (i + 1)) ∨ (146 ≤ j ∧ j < 146 + i)) (hasP_p (j := 18 + i) (D' := fun j => j < 18 + (i + 1) ∨ (82 ≤ j ∧ j < 82 + i) ∨ (146 ≤ j ∧ j < 146 + i)) hp (by omega) ?_ (fun k _ h => by omega)) (by omega) ?_ (fun k _ h => by omega)) (by omega) ?_ (fun k _ h => by omega)
      · unfold pk; rw [if_neg (by omega), if_neg (by omega), if_neg (by omega), if_neg (by omega), if_pos (by omega)]; congr 2; omega
      · unfold pk; rw [if_neg (by omega), if_neg (by omega), if_neg (by omega), if_neg (by omega), if_neg (by omega), if_pos (by omega)]; congr 2; omega
      · unfold pk; rw [if_neg (by omega), if_neg (by omega), if_neg (by omega), if_neg (by omega), if_neg (by omega), if_neg (by omega), show 146 + i - 146 = i by omega]
    · rw [b251_71 hK]
      simp (disch := first | assumption | exact hf _ | omega) only [b251, b251_0, b251_30, b251_65, b251_78, b251_130, nI_add, mn_mul, mn_sub, mn_m1, mn_m8, mn_eq, mn_lt, mn_le, mn_eq0, mn_0eq, mn_lt0, mn_0lt, mn_le0, mn_0le, mn_eqm, mn_meq, mn_ltm, mn_mlt, mn_lem, mn_mle, mn_mm1, mn_mm2, mn_mm3, mn_mm4, mn_mm5, mn_mm6, mn_and, mn_or, mn_an, mn_shl, mn_shr, mn_div, mn_rem, mn_clamp, mn_in, mn_inm, mn_nz, mn_zo, mn_min, mn_max, mn_abs, mn_rfit, mn_cp, mn_les, mn_gre, mn_a127, mn_a15, mn_a1, mn_a255, mn_tn0, mn_tn0e, mn_tnr, mn_tnz, mr_get, mr_ne, mr_put, mu_ne, mu_eq, mj_bk_i, mj_bk_v, mj_bk_x, decide_eq_true_eq, decide_true, decide_false, Bool.false_eq_true, Bool.true_eq_false, reduceCtorEq, mt_le_t, mt_le_f, mt_lt_t, mt_lt_f, mt_eq_t, mt_eq_f, mt_ee, not_true_eq_false, not_false_eq_true, and_true, true_and, and_self, Nat.zero_add, Nat.add_zero, Nat.one_mul, Nat.mul_one, Nat.reduceAdd, Nat.reduceMul, Nat.reduceSub, Nat.reducePow, Nat.reduceDiv, Nat.reduceMod, ↓reduceIte, mp_h, mp_w, mp_c, mp_s, mp_d, mp_n, mp_54, mp_52, mp_55, mp_l, mp_o, mp_42, mp_45, gh_gp, gw_gp, gc_gp, mw_pne, Nat.or_zero, hKw]) (a := ()) (g := t1) ⟨h1, fun j hj h => hp2 j hj (by omega)⟩ 64 (Nat.le_refl 64)
  refine ⟨t2, ?_, h2, fun j hj _ => hp3 j hj (by omega)⟩
  rw [b251_0 hK]
  have q1 : mw_in n1 (nI off) = true := by rw [mn_in (by omega)]; exact decide_eq_true (by omega)
  have q2 : mw_in n1 (nI off + nI 1) = true := by rw [nI_add, mn_in (by omega)]; exact decide_eq_true (by omega)
  rw [if_pos q1, if_pos q2]
  simp (disch := first | assumption | exact hf _ | omega) only [nI_add, mn_clamp, mp_54, hKw, mp_52]
  refine e1.trans ?_
  rw [b251_23 hK]
  simp (disch := first | assumption | exact hf _ | omega) only [mn_le, mt_le_t, ↓reduceIte, b251_65, nI_add, Nat.add_assoc, Nat.reduceAdd, Nat.le_refl]
  refine e2.trans ?_
  rw [b251_71 hK]
  simp (disch := first | assumption | exact hf _ | omega) only [b251, b251_0, b251_30, b251_65, b251_78, b251_130, nI_add, mn_mul, mn_sub, mn_m1, mn_m8, mn_eq, mn_lt, mn_le, mn_eq0, mn_0eq, mn_lt0, mn_0lt, mn_le0, mn_0le, mn_eqm, mn_meq, mn_ltm, mn_mlt, mn_lem, mn_mle, mn_mm1, mn_mm2, mn_mm3, mn_mm4, mn_mm5, mn_mm6, mn_and, mn_or, mn_an, mn_shl, mn_shr, mn_div, mn_rem, mn_clamp, mn_in, mn_inm, mn_nz, mn_zo, mn_min, mn_max, mn_abs, mn_rfit, mn_cp, mn_les, mn_gre, mn_a127, mn_a15, mn_a1, mn_a255, mn_tn0, mn_tn0e, mn_tnr, mn_tnz, mr_get, mr_ne, mr_put, mu_ne, mu_eq, mj_bk_i, mj_bk_v, mj_bk_x, decide_eq_true_eq, decide_true, decide_false, Bool.false_eq_true, Bool.true_eq_false, reduceCtorEq, mt_le_t, mt_le_f, mt_lt_t, mt_lt_f, mt_eq_t, mt_eq_f, mt_ee, not_true_eq_false, not_false_eq_true, and_true, true_and, and_self, Nat.zero_add, Nat.add_zero, Nat.one_mul, Nat.mul_one, Nat.reduceAdd, Nat.reduceMul, Nat.reduceSub, Nat.reducePow, Nat.reduceDiv, Nat.reduceMod, ↓reduceIte, mp_h, mp_w, mp_c, mp_s, mp_d, mp_n, mp_54, mp_52, mp_55, mp_l, mp_o, mp_42, mp_45, gh_gp, gw_gp, gc_gp, mw_pne, Nat.or_zero]
theorem pk_2 {p : Nat} (hp : p < 8) : pk f (2 + p) = sp f p := by unfold pk; rw [if_neg (by omega), if_neg (by omega), if_pos (by omega)]; congr 2; omega
theorem pk_10 {p : Nat} (hp : p < 8) : pk f (10 + p) = nI (f (8 + p)) := by unfold pk; rw [if_neg (by omega), if_neg (by omega), if_neg (by omega), if_pos (by omega)]; congr 2; omega
theorem pk_18 {i : Nat} (hi : i < 64) : pk f (18 + i) = nI (gh f i) := by unfold pk; rw [if_neg (by omega), if_neg (by omega), if_neg (by omega), if_neg (by omega), if_pos (by omega)]; congr 2; omega
theorem pk_82 {i : Nat} (hi : i < 64) : pk f (82 + i) = nI (gw f i) := by unfold pk; rw [if_neg (by omega), if_neg (by omega), if_neg (by omega), if_neg (by omega), if_neg (by omega), if_pos (by omega)]; congr 2; omega
theorem pk_146 {i : Nat} (hi : i < 64) : pk f (146 + i) = nI (gc f i) := by unfold pk; rw [if_neg (by omega), if_neg (by omega), if_neg (by omega), if_neg (by omega), if_neg (by omega), if_neg (by omega), show 146 + i - 146 = i by omega]
theorem mp_w3b {g : Nat → Nat} {i : Nat} (hi : i < 64) : mw_p (mw_p (mw_p (mp s g) 59 i (nI (gh f i))) 60 i (nI (gw f i))) 61 i (nI (gc f i)) = mp s (if i / 8 < i % 8 then mr_u g (24 + fp (i / 8) (i % 8)) (f (24 + fp (i / 8) (i % 8))) else g) := by
  by_cases h : i / 8 < i % 8
  · rw [if_pos h]
    have hk : i = gp (i / 8) (i % 8) := by unfold gp; omega
    have e1 : gh f i = fh f (fp (i / 8) (i % 8)) := by unfold gh; rw [if_pos h]
    have e2 : gw f i = fw f (fp (i / 8) (i % 8)) := by unfold gw; rw [if_pos h]
    have e3 : gc f i = fc f (fp (i / 8) (i % 8)) := by unfold gc; rw [if_pos h]
    rw [e1, e2, e3]
    have := mp_w3 (s := s) (f := g) (p := i / 8) (q := i % 8) (h := fh f (fp (i / 8) (i % 8))) (w := fw f (fp (i / 8) (i % 8))) (c := fc f (fp (i / 8) (i % 8))) (by omega) (by omega) (by omega) (fh_lt _ _) (fw_lt _ _)
    rw [← hk] at this
    rw [this]
    congr 2
    unfold fh fw fc
    omega
  · rw [if_neg h]
    have e1 : ∀ f, gh f i = 0 := fun f => by unfold gh; rw [if_neg h]
    have e2 : ∀ f, gw f i = 0 := fun f => by unfold gw; rw [if_neg h]
    have e3 : ∀ f, gc f i = 0 := fun f => by unfold gc; rw [if_neg h]
    rw [e1, e2, e3]
    refine Prod.ext ?_ rfl
    funext a b
    show (if a = 61 ∧ b = i then nI 0 else if a = 60 ∧ b = i then nI 0 else if a = 59 ∧ b = i then nI 0 else (mp s g).1 a b) = (mp s g).1 a b
    split
    · next z => rw [z.1, z.2, mp_c hi, e3]
    split
    · next z => rw [z.1, z.2, mp_w hi, e2]
    split
    · next z => rw [z.1, z.2, mp_h hi, e1]
    · rfl
theorem w57s {g' : Nat → Nat} {i : Nat} (hi : i < 8) (hg : g' 64 = f 64 ∧ g' 55 = f 55) : mw_p (mp s g') 57 i (sp f i) = mp s (mr_u g' (16 + i) (f (16 + i))) := by
  by_cases c : f 64 = 1 ∧ f 55 = 0
  · have c' : g' 64 = 1 ∧ g' 55 = 0 := by rw [hg.1, hg.2]; exact c
    have z1 : ∀ b, sp (mr_u g' (16 + i) (f (16 + i))) b = nI 0 := fun b => if_pos (by rw [mu_ne (by omega), mu_ne (by omega)]; exact c')
    have z2 : ∀ b, sp g' b = nI 0 := fun b => if_pos c'
    have z3 : sp f i = nI 0 := if_pos c
    rw [z3, ← mp_qf (by omega)]
    refine Prod.ext ?_ rfl
    funext a b
    show (if a = 57 ∧ b = i then nI 0 else (mp s g').1 a b) = _
    unfold mp mq
    simp only [z1, z2, mu_ne (show ¬ 54 = 16 + i by omega), mu_ne (show ¬ 52 = 16 + i by omega), mu_ne (show ¬ 53 = 16 + i by omega), mu_ne (show ¬ 55 = 16 + i by omega)]
    by_cases ha : a = 57
    · subst ha
      by_cases hb : b = i
      · subst hb; simp [hi]
      · simp [hb]
    · simp only [ha, false_and, if_false]
      by_cases h1 : b < 8
      · rw [mu_ne (show ¬ 8 + b = 16 + i by omega), mu_ne (show ¬ b = 16 + i by omega)]
      · simp only [h1, and_false, if_false]
  · rw [sp_f c]
    exact (mq_w57 (by rw [hg.1, hg.2]; exact c) hi rfl).trans (mp_qf (by omega))
theorem c268 {g : Nat → Nat} (hK : mw_rw K = some (.int, n1)) (hKx : mpx K) (ho : off + 210 ≤ n1) (hn : n1 < 100000) (hp : hasP s K off f (fun _ => True)) (hs : sst f g) : mj_call X d 268 [.ref 42, .ref K, .int (nI off)] (mw_U (mp s g)) = some (.inl none, mw_U (mp s f)) := by
  have hKx' := hKx
  unfold mpx at hKx'
  have hKr : ∀ {g : Nat → Nat} {j : Nat}, (mp s g).1 K j = s.1 K j := mp_o hKx
  have n57 : ¬ K = 57 := by omega
  have n58 : ¬ K = 58 := by omega
  have n59 : ¬ K = 59 := by omega
  have n60 : ¬ K = 60 := by omega
  have n61 : ¬ K = 61 := by omega
  have n42 : ¬ K = 42 := by omega
  have hp0 : s.1 K off = nI (f 54) := hp 0 (by omega) trivial
  have hp1 : s.1 K (off + 1) = nI (f 52) := hp 1 (by omega) trivial
  rw [b268, b268_0 hK]
  have q1 : mw_in n1 (nI off) = true := by rw [mn_in (by omega)]; exact decide_eq_true (by omega)
  have q2 : mw_in n1 (nI off + nI 1) = true := by rw [nI_add, mn_in (by omega)]; exact decide_eq_true (by omega)
  rw [if_pos q1, if_pos q2]
  simp (disch := first | assumption | exact hf _ | omega) only [nI_add, mn_clamp, hKr, mw_pne, hp0, hp1, mp_w54, mp_w52]
  obtain ⟨hI, _, e⟩ := mr_for (E := fun i g' (_ : Unit) => mj_exec X d 268 23 [some (.ref 42), some (.ref K), some (.int (nI off)), some (.int (nI (off + 2))), some (.int (nI i))] [] (mw_U (mp s g'))) (F := fun i g' => mr_u (mr_u g' (16 + i) (f (16 + i))) (8 + i) (f (8 + i))) (I := fun _ (g' : Nat → Nat) => g' 64 = f 64 ∧ g' 55 = f 55) (N := 8) (by
    intro i g' _ hi hg'
    refine ⟨by rw [mu_ne (by omega), mu_ne (by omega), mu_ne (by omega), mu_ne (by omega)]; exact hg', (), ?_⟩
    have r1 : s.1 K (off + 2 + i) = sp f i := by rw [← pk_2 hi, Nat.add_assoc]; exact hp _ (by omega) trivial
    have r2 : s.1 K (off + 2 + 8 + i) = nI (f (8 + i)) := by rw [← pk_10 hi, show off + 2 + 8 + i = off + (10 + i) by omega]; exact hp _ (by omega) trivial
    have w1 : mw_p (mp s g') 57 i (sp f i) = mp s (mr_u g' (16 + i) (f (16 + i))) := w57s hi hg'
    rw [b268_23 hK]
    simp (disch := first | assumption | exact hf _ | omega) only [b268, b268_0, b268_30, b268_65, b268_78, b268_130, nI_add, mn_mul, mn_sub, mn_m1, mn_m8, mn_eq, mn_lt, mn_le, mn_eq0, mn_0eq, mn_lt0, mn_0lt, mn_le0, mn_0le, mn_eqm, mn_meq, mn_ltm, mn_mlt, mn_lem, mn_mle, mn_mm1, mn_mm2, mn_mm3, mn_mm4, mn_mm5, mn_mm6, mn_and, mn_or, mn_an, mn_shl, mn_shr, mn_div, mn_rem, mn_clamp, mn_in, mn_inm, mn_nz, mn_zo, mn_min, mn_max, mn_abs, mn_rfit, mn_cp, mn_les, mn_gre, mn_a127, mn_a15, mn_a1, mn_a255, mn_tn0, mn_tn0e, mn_tnr, mn_tnz, mr_get, mr_ne, mr_put, mu_ne, mu_eq, mj_bk_i, mj_bk_v, mj_bk_x, decide_eq_true_eq, decide_true, decide_false, Bool.false_eq_true, Bool.true_eq_false, reduceCtorEq, mt_le_t, mt_le_f, mt_lt_t, mt_lt_f, mt_eq_t, mt_eq_f, mt_ee, not_true_eq_false, not_false_eq_true, and_true, true_and, and_self, Nat.zero_add, Nat.add_zero, Nat.one_mul, Nat.mul_one, Nat.reduceAdd, Nat.reduceMul, Nat.reduceSub, Nat.reducePow, Nat.reduceDiv, Nat.reduceMod, ↓reduceIte, mp_h, mp_w, mp_c, mp_s, mp_d, mp_n, mp_54, mp_52, mp_55, mp_l, mp_o, mp_42, mp_45, gh_gp, gw_gp, gc_gp, mw_pne, Nat.or_zero, hKr, r1, r2, w1, mp_w58]) (a := mr_u (mr_u g 54 (f 54)) 52 (f 52)) (by rw [mu_ne (by omega), mu_ne (by omega), mu_ne (by omega), mu_ne (by omega)]; exact ⟨hs.2.2.2.symm, hs.2.2.1.symm⟩) () 8 (Nat.le_refl 8)
  refine e.trans ?_
  rw [b268_23 hK]
  simp (disch := first | assumption | exact hf _ | omega) only [mn_le, mt_le_t, ↓reduceIte, b268_65, nI_add, Nat.add_assoc, Nat.reduceAdd, Nat.le_refl]
  obtain ⟨hI, _, e⟩ := mr_for (E := fun i g' (_ : Unit) => mj_exec X d 268 71 [some (.ref 42), some (.ref K), some (.int (nI off)), some (.int (nI (off + 18))), some (.int (nI i))] [] (mw_U (mp s g'))) (F := fun i g' => if i / 8 < i % 8 then mr_u g' (24 + fp (i / 8) (i % 8)) (f (24 + fp (i / 8) (i % 8))) else g') (I := fun _ _ => True) (N := 64) (by
    intro i g' _ hi _
    refine ⟨trivial, (), ?_⟩
    have r1 : s.1 K (off + 18 + i) = nI (gh f i) := by rw [← pk_18 hi, Nat.add_assoc]; exact hp _ (by omega) trivial
    have r2 : s.1 K (off + 18 + 64 + i) = nI (gw f i) := by rw [← pk_82 hi, show off + 18 + 64 + i = off + (82 + i) by omega]; exact hp _ (by omega) trivial
    have r3 : s.1 K (off + 18 + 128 + i) = nI (gc f i) := by rw [← pk_146 hi, show off + 18 + 128 + i = off + (146 + i) by omega]; exact hp _ (by omega) trivial
    rw [b268_71 hK, ← mp_w3b hi]
    simp (disch := first | assumption | exact hf _ | omega) only [b268, b268_0, b268_30, b268_65, b268_78, b268_130, nI_add, mn_mul, mn_sub, mn_m1, mn_m8, mn_eq, mn_lt, mn_le, mn_eq0, mn_0eq, mn_lt0, mn_0lt, mn_le0, mn_0le, mn_eqm, mn_meq, mn_ltm, mn_mlt, mn_lem, mn_mle, mn_mm1, mn_mm2, mn_mm3, mn_mm4, mn_mm5, mn_mm6, mn_and, mn_or, mn_an, mn_shl, mn_shr, mn_div, mn_rem, mn_clamp, mn_in, mn_inm, mn_nz, mn_zo, mn_min, mn_max, mn_abs, mn_rfit, mn_cp, mn_les, mn_gre, mn_a127, mn_a15, mn_a1, mn_a255, mn_tn0, mn_tn0e, mn_tnr, mn_tnz, mr_get, mr_ne, mr_put, mu_ne, mu_eq, mj_bk_i, mj_bk_v, mj_bk_x, decide_eq_true_eq, decide_true, decide_false, Bool.false_eq_true, Bool.true_eq_false, reduceCtorEq, mt_le_t, mt_le_f, mt_lt_t, mt_lt_f, mt_eq_t, mt_eq_f, mt_ee, not_true_eq_false, not_false_eq_true, and_true, true_and, and_self, Nat.zero_add, Nat.add_zero, Nat.one_mul, Nat.mul_one, Nat.reduceAdd, Nat.reduceMul, Nat.reduceSub, Nat.reducePow, Nat.reduceDiv, Nat.reduceMod, ↓reduceIte, mp_h, mp_w, mp_c, mp_s, mp_d, mp_n, mp_54, mp_52, mp_55, mp_l, mp_o, mp_42, mp_45, gh_gp, gw_gp, gc_gp, mw_pne, Nat.or_zero, hKr, r1, r2, r3]) (a := mr_it (fun i g' => mr_u (mr_u g' (16 + i) (f (16 + i))) (8 + i) (f (8 + i))) 8 (mr_u (mr_u g 54 (f 54)) 52 (f 52))) trivial () 64 (Nat.le_refl 64)
  refine e.trans ?_
  rw [b268_71 hK]
  simp (disch := first | assumption | exact hf _ | omega) only [b268, b268_0, b268_30, b268_65, b268_78, b268_130, nI_add, mn_mul, mn_sub, mn_m1, mn_m8, mn_eq, mn_lt, mn_le, mn_eq0, mn_0eq, mn_lt0, mn_0lt, mn_le0, mn_0le, mn_eqm, mn_meq, mn_ltm, mn_mlt, mn_lem, mn_mle, mn_mm1, mn_mm2, mn_mm3, mn_mm4, mn_mm5, mn_mm6, mn_and, mn_or, mn_an, mn_shl, mn_shr, mn_div, mn_rem, mn_clamp, mn_in, mn_inm, mn_nz, mn_zo, mn_min, mn_max, mn_abs, mn_rfit, mn_cp, mn_les, mn_gre, mn_a127, mn_a15, mn_a1, mn_a255, mn_tn0, mn_tn0e, mn_tnr, mn_tnz, mr_get, mr_ne, mr_put, mu_ne, mu_eq, mj_bk_i, mj_bk_v, mj_bk_x, decide_eq_true_eq, decide_true, decide_false, Bool.false_eq_true, Bool.true_eq_false, reduceCtorEq, mt_le_t, mt_le_f, mt_lt_t, mt_lt_f, mt_eq_t, mt_eq_f, mt_ee, not_true_eq_false, not_false_eq_true, and_true, true_and, and_self, Nat.zero_add, Nat.add_zero, Nat.one_mul, Nat.mul_one, Nat.reduceAdd, Nat.reduceMul, Nat.reduceSub, Nat.reducePow, Nat.reduceDiv, Nat.reduceMod, ↓reduceIte, mp_h, mp_w, mp_c, mp_s, mp_d, mp_n, mp_54, mp_52, mp_55, mp_l, mp_o, mp_42, mp_45, gh_gp, gw_gp, gc_gp, mw_pne, Nat.or_zero]
  congr 3
  have main : ∀ j, j < 56 ∨ j = 64 → mr_it (fun i g' => if i / 8 < i % 8 then mr_u g' (24 + fp (i / 8) (i % 8)) (f (24 + fp (i / 8) (i % 8))) else g') 64 (mr_it (fun i g' => mr_u (mr_u g' (16 + i) (f (16 + i))) (8 + i) (f (8 + i))) 8 (mr_u (mr_u g 54 (f 54)) 52 (f 52))) j = f j := by
   intro j hj
   rw [mr_64 (fun i g' => mr_u g' (24 + i) (f (24 + i))), it_u]
   by_cases h1 : 24 ≤ j ∧ j < 24 + 28
   · rw [if_pos h1]
   · rw [if_neg h1]
     have key : ∀ n, mr_it (fun i g' => mr_u (mr_u g' (16 + i) (f (16 + i))) (8 + i) (f (8 + i))) n (mr_u (mr_u g 54 (f 54)) 52 (f 52)) j = if (8 ≤ j ∧ j < 8 + n) ∨ (16 ≤ j ∧ j < 16 + n) then f j else (mr_u (mr_u g 54 (f 54)) 52 (f 52)) j := by
       intro n
       induction n with
       | zero => rw [if_neg (by omega)]; rfl
       | succ n ih =>
         show mr_u (mr_u (mr_it _ n _) (16 + n) (f (16 + n))) (8 + n) (f (8 + n)) j = _
         by_cases a1 : j = 8 + n
         · subst a1; rw [mu_eq, if_pos (by omega)]
         · rw [mu_ne a1]
           by_cases a2 : j = 16 + n
           · subst a2; rw [mu_eq, if_pos (by omega)]
           · rw [mu_ne a2, ih]
             by_cases a3 : (8 ≤ j ∧ j < 8 + n) ∨ (16 ≤ j ∧ j < 16 + n)
             · rw [if_pos a3, if_pos (by omega)]
             · rw [if_neg a3, if_neg (by omega)]
     rw [key 8]
     by_cases h2 : (8 ≤ j ∧ j < 8 + 8) ∨ (16 ≤ j ∧ j < 16 + 8)
     · rw [if_pos h2]
     · rw [if_neg h2]
       unfold mr_u
       obtain ⟨s1, s2, s3, s4⟩ := hs
       split
       · next h => rw [h]
       split
       · next h => rw [h]
       have : j < 8 ∨ j = 53 ∨ j = 55 ∨ j = 64 := by omega
       rcases this with h | h | h | h
       · exact (s1 j h).symm
       · rw [h]; exact s2.symm
       · rw [h]; exact s3.symm
       · rw [h]; exact s4.symm
  exact mp_ext (fun j hj => main j (Or.inl hj)) (main 64 (Or.inr rfl))
end
def pP (P : Nat → Nat → Nat) (a : Nat) (f : Nat → Nat) : Nat → Nat → Nat := fun j => if a < 40 then (if j = a then f else P j) else (if j = 39 then f else P (j + 1))
def pA (a : Nat) : Nat := if a < 40 then a + 1 else 40
def PM (s : mw_S) (P : Nat → Nat → Nat) (a : Nat) : Prop := a ≤ 40 ∧ s.1 42 34 = nI a ∧ ∀ j, j < a → hasP s 62 (210 * j) (P j) (fun _ => True)
section
variable {X : mj_X} {d : Nat} {s : mw_S} {f : Nat → Nat}
def m62 (a : Nat) : Prop := a = 62 ∨ a = 42
theorem c250 {P : Nat → Nat → Nat} {a : Nat} (hP : PM s P a) : ∃ t, mj_call X (d + 1) 250 [.ref 42] (mw_U (mp s f)) = some (.inl none, mw_U (mp t f)) ∧ PM t (pP P a f) (pA a) ∧ mg s t m62 ∧ (∀ b, ¬ b = 34 → t.1 42 b = s.1 42 b) := by
  obtain ⟨ha, h34, hP⟩ := hP
  have x62 : mpx 62 := by unfold mpx; omega
  by_cases h40 : a = 40
  · subst h40
    obtain ⟨t1, h1, e1⟩ := mr_forg (α := Unit) (γ := mw_S) (E := fun i _ t => mj_exec X (d + 1) 250 13 [some (.ref 42), some (.int (nI (210 + i)))] [] (mw_U (mp t f))) (F := fun _ a => a) (I := fun i _ t => t.2 = s.2 ∧ (∀ a, ¬ a = 62 → t.1 a = s.1 a) ∧ (∀ b, b < i → t.1 62 b = s.1 62 (210 + b)) ∧ (∀ b, i ≤ b → t.1 62 b = s.1 62 b)) (N := 8190) (by
      intro i _ t hi ⟨h1, h2, h3, h4⟩
      refine ⟨mw_p t 62 i (t.1 62 (210 + i)), ⟨h1, fun a ha => by rw [← h2 a ha]; funext b; exact mw_pne ha, ?_, ?_⟩, ?_⟩
      · intro b hb
        by_cases he : b = i
        · subst he; rw [mw_peq]; exact h4 _ (by omega)
        · rw [mw_pnj he]; exact h3 b (by omega)
      · intro b hb
        rw [mw_pnj (by omega)]; exact h4 b (by omega)
      · rw [b250_13]
        have e0 : 210 + i - 210 = i := by omega
        simp (disch := first | assumption | exact hf _ | omega) only [b250, b250_0, b250_9, b250_22, b250_44, b250_54, b250_70, nI_add, mn_mul, mn_sub, mn_m1, mn_m8, mn_eq, mn_lt, mn_le, mn_eq0, mn_0eq, mn_lt0, mn_0lt, mn_le0, mn_0le, mn_eqm, mn_meq, mn_ltm, mn_mlt, mn_lem, mn_mle, mn_mm1, mn_mm2, mn_mm3, mn_mm4, mn_mm5, mn_mm6, mn_and, mn_or, mn_an, mn_shl, mn_shr, mn_div, mn_rem, mn_clamp, mn_in, mn_inm, mn_nz, mn_zo, mn_min, mn_max, mn_abs, mn_rfit, mn_cp, mn_les, mn_gre, mn_a127, mn_a15, mn_a1, mn_a255, mn_tn0, mn_tn0e, mn_tnr, mn_tnz, mr_get, mr_ne, mr_put, mu_ne, mu_eq, mj_bk_i, mj_bk_v, mj_bk_x, decide_eq_true_eq, decide_true, decide_false, Bool.false_eq_true, Bool.true_eq_false, reduceCtorEq, mt_le_t, mt_le_f, mt_lt_t, mt_lt_f, mt_eq_t, mt_eq_f, mt_ee, not_true_eq_false, not_false_eq_true, and_true, true_and, and_self, Nat.zero_add, Nat.add_zero, Nat.one_mul, Nat.mul_one, Nat.reduceAdd, Nat.reduceMul, Nat.reduceSub, Nat.reducePow, Nat.reduceDiv, Nat.reduceMod, ↓reduceIte, mp_h, mp_w, mp_c, mp_s, mp_d, mp_n, mp_54, mp_52, mp_55, mp_l, mp_o, mp_42, mp_45, gh_gp, gw_gp, gc_gp, mw_pne, Nat.or_zero, mp_wo, e0, Nat.add_assoc]) (a := ()) (g := s) ⟨rfl, fun _ _ => rfl, fun b hb => by omega, fun _ _ => rfl⟩ 8190 (Nat.le_refl 8190)
    obtain ⟨g1, g2, g3, g4⟩ := h1
    have hq34 : t1.1 42 34 = nI 40 := by rw [g2 42 (by decide)]; exact h34
    obtain ⟨t2, e2, r2, p2⟩ := c251 (X := X) (d := d) (s := mw_p t1 42 34 (nI 39)) (f := f) (off := 8190) mw_r_62 x62 (by decide) (by decide)
    have hfr : ∀ b, t2.1 42 b = (mw_p t1 42 34 (nI 39)).1 42 b := fun b => r2.2 42 b (by omega)
    refine ⟨mw_p t2 42 34 (nI 40), ?_, ⟨by decide, ?_, ?_⟩, ⟨?_, ?_⟩, ?_⟩
    · rw [b250]
      simp (disch := first | assumption | exact hf _ | omega) only [b250_0, mp_42, h34, mn_eq, mt_ee, ↓reduceIte, b250_9]
      refine e1.trans ?_
      rw [b250_13]
      have hz : t2.1 42 34 = nI 39 := by rw [hfr, mw_peq]
      simp (disch := first | assumption | exact hf _ | omega) only [b250, b250_0, b250_9, b250_22, b250_44, b250_54, b250_70, nI_add, mn_mul, mn_sub, mn_m1, mn_m8, mn_eq, mn_lt, mn_le, mn_eq0, mn_0eq, mn_lt0, mn_0lt, mn_le0, mn_0le, mn_eqm, mn_meq, mn_ltm, mn_mlt, mn_lem, mn_mle, mn_mm1, mn_mm2, mn_mm3, mn_mm4, mn_mm5, mn_mm6, mn_and, mn_or, mn_an, mn_shl, mn_shr, mn_div, mn_rem, mn_clamp, mn_in, mn_inm, mn_nz, mn_zo, mn_min, mn_max, mn_abs, mn_rfit, mn_cp, mn_les, mn_gre, mn_a127, mn_a15, mn_a1, mn_a255, mn_tn0, mn_tn0e, mn_tnr, mn_tnz, mr_get, mr_ne, mr_put, mu_ne, mu_eq, mj_bk_i, mj_bk_v, mj_bk_x, decide_eq_true_eq, decide_true, decide_false, Bool.false_eq_true, Bool.true_eq_false, reduceCtorEq, mt_le_t, mt_le_f, mt_lt_t, mt_lt_f, mt_eq_t, mt_eq_f, mt_ee, not_true_eq_false, not_false_eq_true, and_true, true_and, and_self, Nat.zero_add, Nat.add_zero, Nat.one_mul, Nat.mul_one, Nat.reduceAdd, Nat.reduceMul, Nat.reduceSub, Nat.reducePow, Nat.reduceDiv, Nat.reduceMod, ↓reduceIte, mp_h, mp_w, mp_c, mp_s, mp_d, mp_n, mp_54, mp_52, mp_55, mp_l, mp_o, mp_42, mp_45, gh_gp, gw_gp, gc_gp, mw_pne, Nat.or_zero, hq34, mp_wo, mw_peq, e2, hz]
    · rw [mw_peq]; rfl
    · intro j hj
      have hj : j < 40 := hj
      intro i hi _
      rw [mw_pne (by omega)]
      show t2.1 62 (210 * j + i) = pk (if 40 < 40 then _ else _) i
      rw [if_neg (by omega)]
      by_cases h39 : j = 39
      · rw [if_pos h39, h39]; exact p2 i hi trivial
      · rw [if_neg h39, r2.2 62 _ (by omega), mw_pne (by omega), g3 _ (by omega), show 210 + (210 * j + i) = 210 * (j + 1) + i by omega]
        exact hP (j + 1) (by omega) i hi trivial
    · show t2.2 = s.2
      rw [r2.1]; exact g1
    · intro a ha
      unfold m62 at ha
      funext b
      rw [mw_pne (by omega), r2.2 a b (by omega), mw_pne (by omega), g2 a (by omega)]
    · intro b hb
      rw [mw_pnj hb, hfr, mw_pnj hb, g2 42 (by decide)]
  · obtain ⟨t2, e2, r2, p2⟩ := c251 (X := X) (d := d) (s := s) (f := f) (off := 210 * a) mw_r_62 x62 (by omega) (by decide)
    have hfr : ∀ b, t2.1 42 b = s.1 42 b := fun b => r2.2 42 b (by omega)
    refine ⟨mw_p t2 42 34 (nI (a + 1)), ?_, ⟨?_, ?_, ?_⟩, ⟨r2.1, ?_⟩, ?_⟩
    · have hz : t2.1 42 34 = nI a := by rw [hfr, h34]
      simp (disch := first | assumption | exact hf _ | omega) only [b250, b250_0, b250_9, b250_22, b250_44, b250_54, b250_70, nI_add, mn_mul, mn_sub, mn_m1, mn_m8, mn_eq, mn_lt, mn_le, mn_eq0, mn_0eq, mn_lt0, mn_0lt, mn_le0, mn_0le, mn_eqm, mn_meq, mn_ltm, mn_mlt, mn_lem, mn_mle, mn_mm1, mn_mm2, mn_mm3, mn_mm4, mn_mm5, mn_mm6, mn_and, mn_or, mn_an, mn_shl, mn_shr, mn_div, mn_rem, mn_clamp, mn_in, mn_inm, mn_nz, mn_zo, mn_min, mn_max, mn_abs, mn_rfit, mn_cp, mn_les, mn_gre, mn_a127, mn_a15, mn_a1, mn_a255, mn_tn0, mn_tn0e, mn_tnr, mn_tnz, mr_get, mr_ne, mr_put, mu_ne, mu_eq, mj_bk_i, mj_bk_v, mj_bk_x, decide_eq_true_eq, decide_true, decide_false, Bool.false_eq_true, Bool.true_eq_false, reduceCtorEq, mt_le_t, mt_le_f, mt_lt_t, mt_lt_f, mt_eq_t, mt_eq_f, mt_ee, not_true_eq_false, not_false_eq_true, and_true, true_and, and_self, Nat.zero_add, Nat.add_zero, Nat.one_mul, Nat.mul_one, Nat.reduceAdd, Nat.reduceMul, Nat.reduceSub, Nat.reducePow, Nat.reduceDiv, Nat.reduceMod, ↓reduceIte, mp_h, mp_w, mp_c, mp_s, mp_d, mp_n, mp_54, mp_52, mp_55, mp_l, mp_o, mp_42, mp_45, gh_gp, gw_gp, gc_gp, mw_pne, Nat.or_zero, h34, h40, e2, hz, mp_wo]
    · unfold pA; split <;> omega
    · rw [mw_peq]; unfold pA; rw [if_pos (by omega)]
    · intro j hj
      have hj : j < a + 1 := by unfold pA at hj; rw [if_pos (by omega)] at hj; exact hj
      intro i hi _
      rw [mw_pne (by omega)]
      show t2.1 62 (210 * j + i) = pk (if a < 40 then _ else _) i
      rw [if_pos (by omega)]
      by_cases hja : j = a
      · rw [if_pos hja, hja]; exact p2 i hi trivial
      · rw [if_neg hja, r2.2 62 _ (by omega)]
        exact hP j (by omega) i hi trivial
    · intro b hb
      unfold m62 at hb
      funext c
      rw [mw_pne (by omega), r2.2 b c (by omega)]
    · intro b hb
      rw [mw_pnj hb, hfr]
end
