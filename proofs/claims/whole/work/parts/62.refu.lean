/-! the reference: nerves by what was seen, where to look -/
def rt (Q : rQ) (f : Nat → Nat) (σ : sS) (g : Nat) : Bool := (f 52).testBit (g / 10) && (decide (¬ f (g / 10) = g % 10) && asB Q (mr_u f (g / 10) (g % 10)) σ)
def FL (Q : rQ) (f : Nat → Nat) (σ : sS) (n : Nat) : List Nat := (List.range n).filter (rt Q f σ)
theorem FL_s {Q : rQ} {f : Nat → Nat} {σ : sS} {n : Nat} : FL Q f σ (n + 1) = FL Q f σ n ++ (if rt Q f σ n then [n] else []) := by
  unfold FL
  rw [List.range_succ, List.filter_append]
  congr 1
  by_cases h : rt Q f σ n = true <;> simp [List.filter_cons, h]
theorem FL_le {Q : rQ} {f : Nat → Nat} {σ : sS} (n : Nat) : (FL Q f σ n).length ≤ n := by
  unfold FL
  refine Nat.le_trans (List.length_filter_le _ _) ?_
  rw [List.length_range]; exact Nat.le_refl _
theorem FL_mem {Q : rQ} {f : Nat → Nat} {σ : sS} {n g : Nat} (h : g ∈ FL Q f σ n) : g < n ∧ rt Q f σ g = true := by
  unfold FL at h
  rw [List.mem_filter, List.mem_range] at h
  exact h
theorem FL_dead {Q : rQ} {f : Nat → Nat} {σ : sS} {n : Nat} (h : rt Q f σ n = false) : FL Q f σ (n + 1) = FL Q f σ n := by
  rw [FL_s, h]; simp
def FM (t : mw_S) (l : List Nat) : Prop := t.1 42 46 = nI l.length ∧ ∀ j x, l[j]? = some x → t.1 71 j = nI x
def m8 (a : Nat) : Prop := a = 63 ∨ a = 64 ∨ a = 70 ∨ a = 71
def mf (s t : mw_S) : Prop := t.2 = s.2 ∧ (∀ a, ¬ m8 a → ¬ a = 42 → t.1 a = s.1 a) ∧ (∀ b, ¬ b = 46 → t.1 42 b = s.1 42 b)
theorem mf_trans {s t u : mw_S} (h : mf s t) (h2 : mf t u) : mf s u := ⟨h2.1.trans h.1, fun a h3 h4 => (h2.2.1 a h3 h4).trans (h.2.1 a h3 h4), fun b h3 => (h2.2.2 b h3).trans (h.2.2 b h3)⟩
theorem mf_mg {s t : mw_S} {P : Nat → Prop} (h : mg s t P) (hP : ∀ a, P a → m8 a) : mf s t := ⟨h.1, fun a h3 _ => h.2 a (fun z => h3 (hP a z)), fun b _ => by rw [h.2 42 (fun z => by have := hP 42 z; unfold m8 at this; omega)]⟩
theorem mf_p {s : mw_S} {v : Int32} : mf s (mw_p s 42 46 v) := ⟨rfl, fun a _ h => by funext c; exact mw_pne h, fun c h3 => mw_pnj h3⟩
theorem mf_p71 {s : mw_S} {j : Nat} {v : Int32} : mf s (mw_p s 71 j v) := mf_mg (P := fun a => a = 71) (mg_p mg_refl rfl) (fun a h => by unfold m8; omega)
theorem mf_mh {s t : mw_S} (h : mf s t) : mh s t := ⟨h.1, fun a h3 h4 => h.2.1 a (fun z => h3 (by unfold m8 at z; unfold gM; omega)) h4, fun b _ h4 _ => h.2.2 b h4⟩
theorem rM_mf {s t : mw_S} {Q : rQ} (h : rM s Q) (hg : mf s t) : rM t Q := rM_mh h (mf_mh hg)
theorem SM_mf {s t : mw_S} {σ : sS} (h : SM s σ) (hg : mf s t) : SM t σ := by
  unfold SM at h ⊢
  rw [hg.2.2 35 (by decide), hg.2.1 67 (by unfold m8; omega) (by decide), hg.2.1 68 (by unfold m8; omega) (by decide), hg.2.1 69 (by unfold m8; omega) (by decide)]
  exact h
theorem SM_mh {s t : mw_S} {σ : sS} (h : SM s σ) (hg : mh s t) : SM t σ := by
  unfold SM at h ⊢
  rw [hg.2.2 35 (by decide) (by decide) (by decide), hg.2.1 67 (by unfold gM; omega) (by decide), hg.2.1 68 (by unfold gM; omega) (by decide), hg.2.1 69 (by unfold gM; omega) (by decide)]
  exact h
section
variable {X : mj_X} {d : Nat} {s : mw_S} {f : Nat → Nat} {Q : rQ} {σ : sS}
theorem c296 {L : Nat} (hw : wf f L) (hq : rM s Q) (ho : rOK Q) (h54 : f 54 ≤ 999) (hS : SM s σ) (hO : sOK σ) : ∃ t, mj_call X (d + 7) 296 [.ref 42] (mw_U (mp s f)) = some (.inl none, mw_U (mp t f)) ∧ mf s t ∧ FM t (FL Q f σ 80) := by
  have hn8 := wf_n hw
  have hf := wf_lt hw
  obtain ⟨t, ⟨h1, h2⟩, e⟩ := mr_forg (α := Unit) (γ := mw_S × Option Value × Option Value) (E := fun p _ t => mj_exec X (d + 7) 296 7 [some (.ref 42), some (.int (nI p)), t.2.1, t.2.2] [] (mw_U (mp t.1 f))) (F := fun _ a => a) (I := fun p _ t => mf s t.1 ∧ FM t.1 (FL Q f σ (10 * p))) (N := f 55) (by
    intro p _ t hp ⟨h1, h2⟩
    obtain ⟨t, l2, l3⟩ := t
    dsimp only at h1 h2 ⊢
    have hp8 : p < 8 := by omega
    have hpn := wf_p hw hp8
    rw [b296_7]
    cases hl : (f 52).testBit p
    · have hdead : FL Q f σ (10 * (p + 1)) = FL Q f σ (10 * p) := by
        have hz : ∀ m, m ≤ 10 → FL Q f σ (10 * p + m) = FL Q f σ (10 * p) := by
          intro m
          induction m with
          | zero => intro _; rfl
          | succ m ih =>
            intro hm
            rw [show 10 * p + (m + 1) = 10 * p + m + 1 from rfl, FL_dead, ih (by omega)]
            unfold rt
            rw [show (10 * p + m) / 10 = p by omega, hl]; rfl
        exact hz 10 (Nat.le_refl _)
      refine ⟨(t, some (.int (nI (f p))), some (.int (nI 0))), ⟨h1, by dsimp only; rw [hdead]; exact h2⟩, ?_⟩
      have hsame : mw_p (mp t f) 55 p (nI (f p)) = mp t f := by rw [mp_w55 hp8, mr_us]
      simp (disch := first | assumption | exact hf _ | omega) only [b296, b296_0, b296_17, b296_32, b296_37, b296_40, b296_52, b296_56, b296_59, b296_62, b296_87, b296_93, b296_106, nI_add, mn_mul, mn_sub, mn_m1, mn_m8, mn_eq, mn_lt, mn_le, mn_eq0, mn_0eq, mn_lt0, mn_0lt, mn_le0, mn_0le, mn_eqm, mn_meq, mn_ltm, mn_mlt, mn_lem, mn_mle, mn_mm1, mn_mm2, mn_mm3, mn_mm4, mn_mm5, mn_mm6, mn_and, mn_or, mn_an, mn_shl, mn_shr, mn_div, mn_rem, mn_clamp, mn_in, mn_inm, mn_nz, mn_zo, mn_min, mn_max, mn_abs, mn_rfit, mn_cp, mn_les, mn_gre, mn_a127, mn_a15, mn_a1, mn_a255, mn_tn0, mn_tn0e, mn_tnr, mn_tnz, mr_get, mr_ne, mr_put, mu_ne, mu_eq, mj_bk_i, mj_bk_v, mj_bk_x, decide_eq_true_eq, decide_true, decide_false, Bool.false_eq_true, Bool.true_eq_false, reduceCtorEq, mt_le_t, mt_le_f, mt_lt_t, mt_lt_f, mt_eq_t, mt_eq_f, mt_ee, not_true_eq_false, not_false_eq_true, and_true, true_and, and_self, Nat.zero_add, Nat.add_zero, Nat.one_mul, Nat.mul_one, Nat.reduceAdd, Nat.reduceMul, Nat.reduceSub, Nat.reducePow, Nat.reduceDiv, Nat.reduceMod, ↓reduceIte, mp_h, mp_w, mp_c, mp_s, mp_d, mp_n, mp_54, mp_52, mp_55, mp_l, mp_o, mp_42, mp_45, gh_gp, gw_gp, gc_gp, mw_pne, Nat.or_zero]
      rw [b296_26]
      simp (disch := first | assumption | exact hf _ | omega) only [b296, b296_0, b296_17, b296_32, b296_37, b296_40, b296_52, b296_56, b296_59, b296_62, b296_87, b296_93, b296_106, nI_add, mn_mul, mn_sub, mn_m1, mn_m8, mn_eq, mn_lt, mn_le, mn_eq0, mn_0eq, mn_lt0, mn_0lt, mn_le0, mn_0le, mn_eqm, mn_meq, mn_ltm, mn_mlt, mn_lem, mn_mle, mn_mm1, mn_mm2, mn_mm3, mn_mm4, mn_mm5, mn_mm6, mn_and, mn_or, mn_an, mn_shl, mn_shr, mn_div, mn_rem, mn_clamp, mn_in, mn_inm, mn_nz, mn_zo, mn_min, mn_max, mn_abs, mn_rfit, mn_cp, mn_les, mn_gre, mn_a127, mn_a15, mn_a1, mn_a255, mn_tn0, mn_tn0e, mn_tnr, mn_tnz, mr_get, mr_ne, mr_put, mu_ne, mu_eq, mj_bk_i, mj_bk_v, mj_bk_x, decide_eq_true_eq, decide_true, decide_false, Bool.false_eq_true, Bool.true_eq_false, reduceCtorEq, mt_le_t, mt_le_f, mt_lt_t, mt_lt_f, mt_eq_t, mt_eq_f, mt_ee, not_true_eq_false, not_false_eq_true, and_true, true_and, and_self, Nat.zero_add, Nat.add_zero, Nat.one_mul, Nat.mul_one, Nat.reduceAdd, Nat.reduceMul, Nat.reduceSub, Nat.reducePow, Nat.reduceDiv, Nat.reduceMod, ↓reduceIte, mp_h, mp_w, mp_c, mp_s, mp_d, mp_n, mp_54, mp_52, mp_55, mp_l, mp_o, mp_42, mp_45, gh_gp, gw_gp, gc_gp, mw_pne, Nat.or_zero, c241 hf (show p < 32 by omega), hl, hsame]
    · obtain ⟨t2, ⟨k1, k2⟩, e2⟩ := mr_forg (α := Unit) (γ := mw_S) (E := fun v _ u => mj_exec X (d + 7) 296 26 [some (.ref 42), some (.int (nI p)), some (.int (nI (f p))), some (.int (nI v))] [] (mw_U (mp u (if v = 0 then f else mr_u f p (v - 1))))) (F := fun _ a => a) (I := fun v _ u => mf s u ∧ FM u (FL Q f σ (10 * p + v))) (N := 10) (by
        intro v _ u hv ⟨k1, k2⟩
        rw [if_neg (show ¬ v + 1 = 0 by omega), show v + 1 - 1 = v by omega]
        have hwv := wf_nv (v := v) hw hp8 (by omega)
        have e55 : mw_p (mp u (if v = 0 then f else mr_u f p (v - 1))) 55 p (nI v) = mp u (mr_u f p v) := by
          rw [mp_w55 hp8]
          split
          · rfl
          · rw [mr_uu]
        have h52 : (if v = 0 then f else mr_u f p (v - 1)) 52 = f 52 := by
          split
          · rfl
          · exact mu_ne (by omega)
        have hfl : ∀ j, (if v = 0 then f else mr_u f p (v - 1)) j < 2147483648 := by
          intro j
          split
          · exact hf j
          · exact mu_lt hf (by omega) j
        have hdiv : (10 * p + v) / 10 = p := by omega
        have hmod : (10 * p + v) % 10 = v := by omega
        have c1 := c241 (X := X) (d := d + 5) (s := u) hfl (show p < 32 by omega)
        rw [h52, hl] at c1
        rw [b296_26]
        by_cases hsame : v = f p
        · have hr : rt Q f σ (10 * p + v) = false := by
            unfold rt
            rw [hdiv, hmod, decide_eq_false (fun z => z hsame.symm)]
            simp
          refine ⟨u, ⟨k1, by rw [show 10 * p + (v + 1) = 10 * p + v + 1 from rfl, FL_dead hr]; exact k2⟩, ?_⟩
          have e55' := e55
          rw [hsame] at e55' c1 ⊢
          simp (disch := first | assumption | exact hf _ | omega) only [b296, b296_0, b296_17, b296_32, b296_37, b296_40, b296_52, b296_56, b296_59, b296_62, b296_87, b296_93, b296_106, nI_add, mn_mul, mn_sub, mn_m1, mn_m8, mn_eq, mn_lt, mn_le, mn_eq0, mn_0eq, mn_lt0, mn_0lt, mn_le0, mn_0le, mn_eqm, mn_meq, mn_ltm, mn_mlt, mn_lem, mn_mle, mn_mm1, mn_mm2, mn_mm3, mn_mm4, mn_mm5, mn_mm6, mn_and, mn_or, mn_an, mn_shl, mn_shr, mn_div, mn_rem, mn_clamp, mn_in, mn_inm, mn_nz, mn_zo, mn_min, mn_max, mn_abs, mn_rfit, mn_cp, mn_les, mn_gre, mn_a127, mn_a15, mn_a1, mn_a255, mn_tn0, mn_tn0e, mn_tnr, mn_tnz, mr_get, mr_ne, mr_put, mu_ne, mu_eq, mj_bk_i, mj_bk_v, mj_bk_x, decide_eq_true_eq, decide_true, decide_false, Bool.false_eq_true, Bool.true_eq_false, reduceCtorEq, mt_le_t, mt_le_f, mt_lt_t, mt_lt_f, mt_eq_t, mt_eq_f, mt_ee, not_true_eq_false, not_false_eq_true, and_true, true_and, and_self, Nat.zero_add, Nat.add_zero, Nat.one_mul, Nat.mul_one, Nat.reduceAdd, Nat.reduceMul, Nat.reduceSub, Nat.reducePow, Nat.reduceDiv, Nat.reduceMod, ↓reduceIte, mp_h, mp_w, mp_c, mp_s, mp_d, mp_n, mp_54, mp_52, mp_55, mp_l, mp_o, mp_42, mp_45, gh_gp, gw_gp, gc_gp, mw_pne, Nat.or_zero, c1, e55']
        · have hu : u = u := rfl
          obtain ⟨u2, eu, gu⟩ := c295 (X := X) (d := d) (s := u) (f := mr_u f p v) (Q := Q) (σ := σ) hwv (rM_mf hq k1) ho (by rw [mu_ne (by omega)]; exact h54) (SM_mf hS k1) hO
          have k3 : mf s u2 := mf_trans k1 (mf_mg gu (fun a h => by unfold m347 at h; unfold m8; omega))
          have k4 : FM u2 (FL Q f σ (10 * p + v)) := by
            refine ⟨?_, fun j x hj => ?_⟩
            · rw [gu.2 42 (by unfold m347; omega)]; exact k2.1
            · rw [gu.2 71 (by unfold m347; omega)]; exact k2.2 j x hj
          cases has : asB Q (mr_u f p v) σ
          · have hr : rt Q f σ (10 * p + v) = false := by
              unfold rt
              rw [hdiv, hmod, has]
              simp
            refine ⟨u2, ⟨k3, by rw [show 10 * p + (v + 1) = 10 * p + v + 1 from rfl, FL_dead hr]; exact k4⟩, ?_⟩
            rw [has] at eu
            simp (disch := first | assumption | exact hf _ | omega) only [b296, b296_0, b296_17, b296_32, b296_37, b296_40, b296_52, b296_56, b296_59, b296_62, b296_87, b296_93, b296_106, nI_add, mn_mul, mn_sub, mn_m1, mn_m8, mn_eq, mn_lt, mn_le, mn_eq0, mn_0eq, mn_lt0, mn_0lt, mn_le0, mn_0le, mn_eqm, mn_meq, mn_ltm, mn_mlt, mn_lem, mn_mle, mn_mm1, mn_mm2, mn_mm3, mn_mm4, mn_mm5, mn_mm6, mn_and, mn_or, mn_an, mn_shl, mn_shr, mn_div, mn_rem, mn_clamp, mn_in, mn_inm, mn_nz, mn_zo, mn_min, mn_max, mn_abs, mn_rfit, mn_cp, mn_les, mn_gre, mn_a127, mn_a15, mn_a1, mn_a255, mn_tn0, mn_tn0e, mn_tnr, mn_tnz, mr_get, mr_ne, mr_put, mu_ne, mu_eq, mj_bk_i, mj_bk_v, mj_bk_x, decide_eq_true_eq, decide_true, decide_false, Bool.false_eq_true, Bool.true_eq_false, reduceCtorEq, mt_le_t, mt_le_f, mt_lt_t, mt_lt_f, mt_eq_t, mt_eq_f, mt_ee, not_true_eq_false, not_false_eq_true, and_true, true_and, and_self, Nat.zero_add, Nat.add_zero, Nat.one_mul, Nat.mul_one, Nat.reduceAdd, Nat.reduceMul, Nat.reduceSub, Nat.reducePow, Nat.reduceDiv, Nat.reduceMod, ↓reduceIte, mp_h, mp_w, mp_c, mp_s, mp_d, mp_n, mp_54, mp_52, mp_55, mp_l, mp_o, mp_42, mp_45, gh_gp, gw_gp, gc_gp, mw_pne, Nat.or_zero, c1, e55, hsame, eu, Bool.toNat_false]
          · have hr : rt Q f σ (10 * p + v) = true := by
              unfold rt
              rw [hdiv, hmod, has, hl, decide_eq_true (show ¬ f p = v from fun z => hsame z.symm)]; rfl
            have hlen := FL_le (Q := Q) (f := f) (σ := σ) (10 * p + v)
            have es : FL Q f σ (10 * p + (v + 1)) = FL Q f σ (10 * p + v) ++ [10 * p + v] := by
              rw [show 10 * p + (v + 1) = 10 * p + v + 1 from rfl, FL_s, hr]; rfl
            refine ⟨mw_p (mw_p u2 71 (FL Q f σ (10 * p + v)).length (nI (10 * p + v))) 42 46 (nI ((FL Q f σ (10 * p + v)).length + 1)), ⟨mf_trans k3 (mf_trans mf_p71 mf_p), ?_⟩, ?_⟩
            · rw [es]
              refine ⟨?_, fun j x hj => ?_⟩
              · rw [mw_peq, List.length_append]; rfl
              · rw [mw_pne (by decide)]
                by_cases hjl : j = (FL Q f σ (10 * p + v)).length
                · subst hjl
                  rw [List.getElem?_append_right (Nat.le_refl _), Nat.sub_self] at hj
                  have hx : 10 * p + v = x := by simpa using hj
                  rw [mw_peq, hx]
                · have := (List.getElem?_eq_some_iff.mp hj).1
                  rw [List.length_append, List.length_singleton] at this
                  rw [List.getElem?_append_left (by omega)] at hj
                  rw [mw_pnj hjl]
                  exact k4.2 j x hj
            · rw [has] at eu
              have k41 := k4.1
              simp (disch := first | assumption | exact hf _ | omega) only [b296, b296_0, b296_17, b296_32, b296_37, b296_40, b296_52, b296_56, b296_59, b296_62, b296_87, b296_93, b296_106, nI_add, mn_mul, mn_sub, mn_m1, mn_m8, mn_eq, mn_lt, mn_le, mn_eq0, mn_0eq, mn_lt0, mn_0lt, mn_le0, mn_0le, mn_eqm, mn_meq, mn_ltm, mn_mlt, mn_lem, mn_mle, mn_mm1, mn_mm2, mn_mm3, mn_mm4, mn_mm5, mn_mm6, mn_and, mn_or, mn_an, mn_shl, mn_shr, mn_div, mn_rem, mn_clamp, mn_in, mn_inm, mn_nz, mn_zo, mn_min, mn_max, mn_abs, mn_rfit, mn_cp, mn_les, mn_gre, mn_a127, mn_a15, mn_a1, mn_a255, mn_tn0, mn_tn0e, mn_tnr, mn_tnz, mr_get, mr_ne, mr_put, mu_ne, mu_eq, mj_bk_i, mj_bk_v, mj_bk_x, decide_eq_true_eq, decide_true, decide_false, Bool.false_eq_true, Bool.true_eq_false, reduceCtorEq, mt_le_t, mt_le_f, mt_lt_t, mt_lt_f, mt_eq_t, mt_eq_f, mt_ee, not_true_eq_false, not_false_eq_true, and_true, true_and, and_self, Nat.zero_add, Nat.add_zero, Nat.one_mul, Nat.mul_one, Nat.reduceAdd, Nat.reduceMul, Nat.reduceSub, Nat.reducePow, Nat.reduceDiv, Nat.reduceMod, ↓reduceIte, mp_h, mp_w, mp_c, mp_s, mp_d, mp_n, mp_54, mp_52, mp_55, mp_l, mp_o, mp_42, mp_45, gh_gp, gw_gp, gc_gp, mw_pne, Nat.or_zero, c1, e55, hsame, eu, Bool.toNat_true, k41, mp_wo]) (a := ()) (g := t) ⟨h1, h2⟩ 10 (Nat.le_refl 10)
      refine ⟨(t2, some (.int (nI (f p))), some (.int (nI 10))), ⟨k1, by rw [show 10 * (p + 1) = 10 * p + 10 by omega]; exact k2⟩, ?_⟩
      dsimp only at e2 ⊢
      simp (disch := first | assumption | exact hf _ | omega) only [mn_in, decide_eq_true_eq, mt_lt_t, mn_clamp, mp_55, mn_le, mt_le_f, ↓reduceIte, b296_17, mp_n]
      refine e2.trans ?_
      have hback : mw_p (mp t2 (mr_u f p 9)) 55 p (nI (f p)) = mp t2 f := by rw [mp_w55 hp8, mr_uu, mr_us]
      rw [b296_26]
      simp (disch := first | assumption | exact hf _ | omega) only [b296, b296_0, b296_17, b296_32, b296_37, b296_40, b296_52, b296_56, b296_59, b296_62, b296_87, b296_93, b296_106, nI_add, mn_mul, mn_sub, mn_m1, mn_m8, mn_eq, mn_lt, mn_le, mn_eq0, mn_0eq, mn_lt0, mn_0lt, mn_le0, mn_0le, mn_eqm, mn_meq, mn_ltm, mn_mlt, mn_lem, mn_mle, mn_mm1, mn_mm2, mn_mm3, mn_mm4, mn_mm5, mn_mm6, mn_and, mn_or, mn_an, mn_shl, mn_shr, mn_div, mn_rem, mn_clamp, mn_in, mn_inm, mn_nz, mn_zo, mn_min, mn_max, mn_abs, mn_rfit, mn_cp, mn_les, mn_gre, mn_a127, mn_a15, mn_a1, mn_a255, mn_tn0, mn_tn0e, mn_tnr, mn_tnz, mr_get, mr_ne, mr_put, mu_ne, mu_eq, mj_bk_i, mj_bk_v, mj_bk_x, decide_eq_true_eq, decide_true, decide_false, Bool.false_eq_true, Bool.true_eq_false, reduceCtorEq, mt_le_t, mt_le_f, mt_lt_t, mt_lt_f, mt_eq_t, mt_eq_f, mt_ee, not_true_eq_false, not_false_eq_true, and_true, true_and, and_self, Nat.zero_add, Nat.add_zero, Nat.one_mul, Nat.mul_one, Nat.reduceAdd, Nat.reduceMul, Nat.reduceSub, Nat.reducePow, Nat.reduceDiv, Nat.reduceMod, ↓reduceIte, mp_h, mp_w, mp_c, mp_s, mp_d, mp_n, mp_54, mp_52, mp_55, mp_l, mp_o, mp_42, mp_45, gh_gp, gw_gp, gc_gp, mw_pne, Nat.or_zero, hback]) (a := ()) (g := (mw_p s 42 46 (nI 0), none, none)) ⟨mf_p, mw_peq, fun j x hj => by
        have : FL Q f σ (10 * 0) = [] := rfl
        rw [this] at hj; simp at hj⟩ (f 55) (Nat.le_refl _)
  obtain ⟨t, l2, l3⟩ := t
  dsimp only at h1 h2 e
  have efl : FL Q f σ 80 = FL Q f σ (10 * f 55) := by
    have hz : ∀ m, 10 * f 55 + m ≤ 80 → FL Q f σ (10 * f 55 + m) = FL Q f σ (10 * f 55) := by
      intro m
      induction m with
      | zero => intro _; rfl
      | succ m ih =>
        intro hm
        rw [show 10 * f 55 + (m + 1) = 10 * f 55 + m + 1 from rfl, FL_dead, ih (by omega)]
        unfold rt
        have : (f 52).testBit ((10 * f 55 + m) / 10) = false := by
          cases hb : (f 52).testBit ((10 * f 55 + m) / 10)
          · rfl
          · have := lv_n hw hb; omega
        rw [this]; rfl
    have := hz (80 - 10 * f 55) (by omega)
    rwa [show 10 * f 55 + (80 - 10 * f 55) = 80 by omega] at this
  refine ⟨t, ?_, h1, by rw [efl]; exact h2⟩
  rw [b296]
  simp (disch := first | assumption | exact hf _ | omega) only [b296_0, mp_wo]
  refine e.trans ?_
  rw [b296_7]
  simp (disch := first | assumption | exact hf _ | omega) only [b296, b296_0, b296_17, b296_32, b296_37, b296_40, b296_52, b296_56, b296_59, b296_62, b296_87, b296_93, b296_106, nI_add, mn_mul, mn_sub, mn_m1, mn_m8, mn_eq, mn_lt, mn_le, mn_eq0, mn_0eq, mn_lt0, mn_0lt, mn_le0, mn_0le, mn_eqm, mn_meq, mn_ltm, mn_mlt, mn_lem, mn_mle, mn_mm1, mn_mm2, mn_mm3, mn_mm4, mn_mm5, mn_mm6, mn_and, mn_or, mn_an, mn_shl, mn_shr, mn_div, mn_rem, mn_clamp, mn_in, mn_inm, mn_nz, mn_zo, mn_min, mn_max, mn_abs, mn_rfit, mn_cp, mn_les, mn_gre, mn_a127, mn_a15, mn_a1, mn_a255, mn_tn0, mn_tn0e, mn_tnr, mn_tnz, mr_get, mr_ne, mr_put, mu_ne, mu_eq, mj_bk_i, mj_bk_v, mj_bk_x, decide_eq_true_eq, decide_true, decide_false, Bool.false_eq_true, Bool.true_eq_false, reduceCtorEq, mt_le_t, mt_le_f, mt_lt_t, mt_lt_f, mt_eq_t, mt_eq_f, mt_ee, not_true_eq_false, not_false_eq_true, and_true, true_and, and_self, Nat.zero_add, Nat.add_zero, Nat.one_mul, Nat.mul_one, Nat.reduceAdd, Nat.reduceMul, Nat.reduceSub, Nat.reducePow, Nat.reduceDiv, Nat.reduceMod, ↓reduceIte, mp_h, mp_w, mp_c, mp_s, mp_d, mp_n, mp_54, mp_52, mp_55, mp_l, mp_o, mp_42, mp_45, gh_gp, gw_gp, gc_gp, mw_pne, Nat.or_zero]
def nvd (Q : rQ) (f : Nat → Nat) (σ : sS) (w : Nat) : Int32 := if w = 2 then nI (asB Q f σ).toNat else if w = 0 then nI (FL Q f σ 80).length else mo (FL Q f σ 80).head?
theorem m294 {L : Nat} (hw : wf f L) (hq : rM s Q) (ho : rOK Q) (h54 : f 54 ≤ 999) (hS : SM s σ) (hO : sOK σ) {w : Nat} (hw2 : w ≤ 2) : ∃ t, mj_call X (d + 8) 294 [.ref 42, .int (nI w)] (mw_U (mp s f)) = some (.inl (some (.int (nvd Q f σ w))), mw_U (mp t f)) ∧ t.1 42 2 = nI 0 ∧ mh s t := by
  have i4 := ib_t (lo := 0) (Nat.zero_le w) hw2 (by decide)
  have m0 : mh s (mw_p s 42 2 (nI 0)) := mh_p2 (Or.inl rfl)
  unfold nvd
  by_cases h2 : w = 2
  · subst h2
    obtain ⟨t, e, g⟩ := c295 (X := X) (d := d + 1) (s := mw_p s 42 2 (nI 0)) hw (rM_mh hq m0) ho h54 (SM_mh hS m0) hO
    refine ⟨t, ?_, by rw [g.2 42 (by unfold m347; omega), mw_peq], mh_trans m0 (mh_mg g (fun a h => by unfold m347 at h; unfold gM; omega))⟩
    cases has : asB Q f σ <;> rw [has] at e
    · simp (disch := first | assumption | exact hf _ | omega) only [b294, b294_0, b294_14, b294_17, b294_22, b294_23, b294_28, b294_32, b294_35, b294_39, b294_40, b294_41, b294_45, b294_49, b294_56, b294_63, b294_67, b294_73, nI_add, mn_mul, mn_sub, mn_m1, mn_m8, mn_eq, mn_lt, mn_le, mn_eq0, mn_0eq, mn_lt0, mn_0lt, mn_le0, mn_0le, mn_eqm, mn_meq, mn_ltm, mn_mlt, mn_lem, mn_mle, mn_mm1, mn_mm2, mn_mm3, mn_mm4, mn_mm5, mn_mm6, mn_and, mn_or, mn_an, mn_shl, mn_shr, mn_div, mn_rem, mn_clamp, mn_in, mn_inm, mn_nz, mn_zo, mn_min, mn_max, mn_abs, mn_rfit, mn_cp, mn_les, mn_gre, mn_a127, mn_a15, mn_a1, mn_a255, mn_tn0, mn_tn0e, mn_tnr, mn_tnz, mr_get, mr_ne, mr_put, mu_ne, mu_eq, mj_bk_i, mj_bk_v, mj_bk_x, decide_eq_true_eq, decide_true, decide_false, Bool.false_eq_true, Bool.true_eq_false, reduceCtorEq, mt_le_t, mt_le_f, mt_lt_t, mt_lt_f, mt_eq_t, mt_eq_f, mt_ee, not_true_eq_false, not_false_eq_true, and_true, true_and, and_self, Nat.zero_add, Nat.add_zero, Nat.one_mul, Nat.mul_one, Nat.reduceAdd, Nat.reduceMul, Nat.reduceSub, Nat.reducePow, Nat.reduceDiv, Nat.reduceMod, ↓reduceIte, mp_h, mp_w, mp_c, mp_s, mp_d, mp_n, mp_54, mp_52, mp_55, mp_l, mp_o, mp_42, mp_45, gh_gp, gw_gp, gc_gp, mw_pne, Nat.or_zero, mp_wo, c240i, i4, e, Bool.toNat_false]
    · simp (disch := first | assumption | exact hf _ | omega) only [b294, b294_0, b294_14, b294_17, b294_22, b294_23, b294_28, b294_32, b294_35, b294_39, b294_40, b294_41, b294_45, b294_49, b294_56, b294_63, b294_67, b294_73, nI_add, mn_mul, mn_sub, mn_m1, mn_m8, mn_eq, mn_lt, mn_le, mn_eq0, mn_0eq, mn_lt0, mn_0lt, mn_le0, mn_0le, mn_eqm, mn_meq, mn_ltm, mn_mlt, mn_lem, mn_mle, mn_mm1, mn_mm2, mn_mm3, mn_mm4, mn_mm5, mn_mm6, mn_and, mn_or, mn_an, mn_shl, mn_shr, mn_div, mn_rem, mn_clamp, mn_in, mn_inm, mn_nz, mn_zo, mn_min, mn_max, mn_abs, mn_rfit, mn_cp, mn_les, mn_gre, mn_a127, mn_a15, mn_a1, mn_a255, mn_tn0, mn_tn0e, mn_tnr, mn_tnz, mr_get, mr_ne, mr_put, mu_ne, mu_eq, mj_bk_i, mj_bk_v, mj_bk_x, decide_eq_true_eq, decide_true, decide_false, Bool.false_eq_true, Bool.true_eq_false, reduceCtorEq, mt_le_t, mt_le_f, mt_lt_t, mt_lt_f, mt_eq_t, mt_eq_f, mt_ee, not_true_eq_false, not_false_eq_true, and_true, true_and, and_self, Nat.zero_add, Nat.add_zero, Nat.one_mul, Nat.mul_one, Nat.reduceAdd, Nat.reduceMul, Nat.reduceSub, Nat.reducePow, Nat.reduceDiv, Nat.reduceMod, ↓reduceIte, mp_h, mp_w, mp_c, mp_s, mp_d, mp_n, mp_54, mp_52, mp_55, mp_l, mp_o, mp_42, mp_45, gh_gp, gw_gp, gc_gp, mw_pne, Nat.or_zero, mp_wo, c240i, i4, e, Bool.toNat_true]
  · obtain ⟨t, e, g, hF⟩ := c296 (X := X) (d := d) (s := mw_p s 42 2 (nI 0)) hw (rM_mh hq m0) ho h54 (SM_mh hS m0) hO
    refine ⟨t, ?_, by rw [g.2.2 2 (by decide), mw_peq], mh_trans m0 (mf_mh g)⟩
    have hF1 := hF.1
    have hlen := FL_le (Q := Q) (f := f) (σ := σ) 80
    rw [if_neg h2]
    by_cases h0 : w = 0
    · subst h0
      simp (disch := first | assumption | exact hf _ | omega) only [b294, b294_0, b294_14, b294_17, b294_22, b294_23, b294_28, b294_32, b294_35, b294_39, b294_40, b294_41, b294_45, b294_49, b294_56, b294_63, b294_67, b294_73, nI_add, mn_mul, mn_sub, mn_m1, mn_m8, mn_eq, mn_lt, mn_le, mn_eq0, mn_0eq, mn_lt0, mn_0lt, mn_le0, mn_0le, mn_eqm, mn_meq, mn_ltm, mn_mlt, mn_lem, mn_mle, mn_mm1, mn_mm2, mn_mm3, mn_mm4, mn_mm5, mn_mm6, mn_and, mn_or, mn_an, mn_shl, mn_shr, mn_div, mn_rem, mn_clamp, mn_in, mn_inm, mn_nz, mn_zo, mn_min, mn_max, mn_abs, mn_rfit, mn_cp, mn_les, mn_gre, mn_a127, mn_a15, mn_a1, mn_a255, mn_tn0, mn_tn0e, mn_tnr, mn_tnz, mr_get, mr_ne, mr_put, mu_ne, mu_eq, mj_bk_i, mj_bk_v, mj_bk_x, decide_eq_true_eq, decide_true, decide_false, Bool.false_eq_true, Bool.true_eq_false, reduceCtorEq, mt_le_t, mt_le_f, mt_lt_t, mt_lt_f, mt_eq_t, mt_eq_f, mt_ee, not_true_eq_false, not_false_eq_true, and_true, true_and, and_self, Nat.zero_add, Nat.add_zero, Nat.one_mul, Nat.mul_one, Nat.reduceAdd, Nat.reduceMul, Nat.reduceSub, Nat.reducePow, Nat.reduceDiv, Nat.reduceMod, ↓reduceIte, mp_h, mp_w, mp_c, mp_s, mp_d, mp_n, mp_54, mp_52, mp_55, mp_l, mp_o, mp_42, mp_45, gh_gp, gw_gp, gc_gp, mw_pne, Nat.or_zero, mp_wo, c240i, i4, e, hF1]
    · have h1 : w = 1 := by omega
      subst h1
      cases hl : FL Q f σ 80 with
      | nil =>
        rw [hl] at hF1
        simp (disch := first | assumption | exact hf _ | omega) only [b294, b294_0, b294_14, b294_17, b294_22, b294_23, b294_28, b294_32, b294_35, b294_39, b294_40, b294_41, b294_45, b294_49, b294_56, b294_63, b294_67, b294_73, nI_add, mn_mul, mn_sub, mn_m1, mn_m8, mn_eq, mn_lt, mn_le, mn_eq0, mn_0eq, mn_lt0, mn_0lt, mn_le0, mn_0le, mn_eqm, mn_meq, mn_ltm, mn_mlt, mn_lem, mn_mle, mn_mm1, mn_mm2, mn_mm3, mn_mm4, mn_mm5, mn_mm6, mn_and, mn_or, mn_an, mn_shl, mn_shr, mn_div, mn_rem, mn_clamp, mn_in, mn_inm, mn_nz, mn_zo, mn_min, mn_max, mn_abs, mn_rfit, mn_cp, mn_les, mn_gre, mn_a127, mn_a15, mn_a1, mn_a255, mn_tn0, mn_tn0e, mn_tnr, mn_tnz, mr_get, mr_ne, mr_put, mu_ne, mu_eq, mj_bk_i, mj_bk_v, mj_bk_x, decide_eq_true_eq, decide_true, decide_false, Bool.false_eq_true, Bool.true_eq_false, reduceCtorEq, mt_le_t, mt_le_f, mt_lt_t, mt_lt_f, mt_eq_t, mt_eq_f, mt_ee, not_true_eq_false, not_false_eq_true, and_true, true_and, and_self, Nat.zero_add, Nat.add_zero, Nat.one_mul, Nat.mul_one, Nat.reduceAdd, Nat.reduceMul, Nat.reduceSub, Nat.reducePow, Nat.reduceDiv, Nat.reduceMod, ↓reduceIte, mp_h, mp_w, mp_c, mp_s, mp_d, mp_n, mp_54, mp_52, mp_55, mp_l, mp_o, mp_42, mp_45, gh_gp, gw_gp, gc_gp, mw_pne, Nat.or_zero, mp_wo, c240i, i4, e, hF1, List.length_nil, List.head?_nil]
        rfl
      | cons x r =>
        rw [hl] at hF1 hlen
        rw [List.length_cons] at hlen
        have hF2 := hF.2 0 x (by rw [hl]; rfl)
        simp (disch := first | assumption | exact hf _ | omega) only [b294, b294_0, b294_14, b294_17, b294_22, b294_23, b294_28, b294_32, b294_35, b294_39, b294_40, b294_41, b294_45, b294_49, b294_56, b294_63, b294_67, b294_73, nI_add, mn_mul, mn_sub, mn_m1, mn_m8, mn_eq, mn_lt, mn_le, mn_eq0, mn_0eq, mn_lt0, mn_0lt, mn_le0, mn_0le, mn_eqm, mn_meq, mn_ltm, mn_mlt, mn_lem, mn_mle, mn_mm1, mn_mm2, mn_mm3, mn_mm4, mn_mm5, mn_mm6, mn_and, mn_or, mn_an, mn_shl, mn_shr, mn_div, mn_rem, mn_clamp, mn_in, mn_inm, mn_nz, mn_zo, mn_min, mn_max, mn_abs, mn_rfit, mn_cp, mn_les, mn_gre, mn_a127, mn_a15, mn_a1, mn_a255, mn_tn0, mn_tn0e, mn_tnr, mn_tnz, mr_get, mr_ne, mr_put, mu_ne, mu_eq, mj_bk_i, mj_bk_v, mj_bk_x, decide_eq_true_eq, decide_true, decide_false, Bool.false_eq_true, Bool.true_eq_false, reduceCtorEq, mt_le_t, mt_le_f, mt_lt_t, mt_lt_f, mt_eq_t, mt_eq_f, mt_ee, not_true_eq_false, not_false_eq_true, and_true, true_and, and_self, Nat.zero_add, Nat.add_zero, Nat.one_mul, Nat.mul_one, Nat.reduceAdd, Nat.reduceMul, Nat.reduceSub, Nat.reducePow, Nat.reduceDiv, Nat.reduceMod, ↓reduceIte, mp_h, mp_w, mp_c, mp_s, mp_d, mp_n, mp_54, mp_52, mp_55, mp_l, mp_o, mp_42, mp_45, gh_gp, gw_gp, gc_gp, mw_pne, Nat.or_zero, mp_wo, c240i, i4, e, hF1, hF2, List.length_cons, List.head?_cons]
        rfl
/-- how many are unlike each other -/
def dst (h : Nat → Nat) (m : Nat) : Nat := mr_it (fun j c => c + (if ∃ i, i < j ∧ h i = h j then 0 else 1)) m 0
theorem dst_le (h : Nat → Nat) (m : Nat) : dst h m ≤ m := mr_it_inv (I := fun n c => c ≤ n) (Nat.le_refl _) (by intro i a _ hh; split <;> omega)
theorem c298 {h : Nat → Nat} {m k : Nat} {w : mw_S} (hm : m ≤ 80) (hk : k < 64) (h46 : w.1 42 46 = nI m) (hh : ∀ j, j < m → w.1 72 (64 * j + k) = nI (h j)) (hb : ∀ j, j < m → h j < 128) : mj_call X d 298 [.ref 42, .int (nI k)] (mw_U w) = some (.inl (some (.int (nI (dst h m)))), mw_U w) := by
  rw [b298, b298_0]
  obtain ⟨hI, g_, e⟩ := mr_for (E := fun j c (l : Option Value × Option Value) => mj_exec X d 298 4 [some (.ref 42), some (.int (nI k)), some (.int (nI c)), some (.int (nI j)), l.1, l.2] [] (mw_U w)) (F := fun j c => c + (if ∃ i, i < j ∧ h i = h j then 0 else 1)) (I := fun _ _ => True) (N := m) (by
    intro j c l hj _
    refine ⟨trivial, ?_⟩
    rw [b298_4]
    simp (disch := first | assumption | exact hf _ | omega) only [h46, mn_le, mt_le_f, ↓reduceIte, b298_12]
    have srch := mr_srch (γ := Unit) (E := fun i _ => mj_exec X d 298 18 [some (.ref 42), some (.int (nI k)), some (.int (nI c)), some (.int (nI j)), some (.int (nI 1)), some (.int (nI i))] [] (mw_U w)) (P := fun i => decide (h i = h j)) (I := fun _ _ => True) (N := j) (by
      intro i _ hi hP _
      have hP : ¬ h i = h j := of_decide_eq_false hP
      have h1 := hh i (by omega)
      have h2 := hh j hj
      have b1 := hb i (by omega)
      have b2 := hb j hj
      refine ⟨(), trivial, ?_⟩
      rw [b298_18]
      simp (disch := first | assumption | exact hf _ | omega) only [b298, b298_0, b298_12, b298_24, b298_29, b298_55, b298_59, b298_60, b298_68, b298_74, b298_78, b298_79, b298_87, nI_add, mn_mul, mn_sub, mn_m1, mn_m8, mn_eq, mn_lt, mn_le, mn_eq0, mn_0eq, mn_lt0, mn_0lt, mn_le0, mn_0le, mn_eqm, mn_meq, mn_ltm, mn_mlt, mn_lem, mn_mle, mn_mm1, mn_mm2, mn_mm3, mn_mm4, mn_mm5, mn_mm6, mn_and, mn_or, mn_an, mn_shl, mn_shr, mn_div, mn_rem, mn_clamp, mn_in, mn_inm, mn_nz, mn_zo, mn_min, mn_max, mn_abs, mn_rfit, mn_cp, mn_les, mn_gre, mn_a127, mn_a15, mn_a1, mn_a255, mn_tn0, mn_tn0e, mn_tnr, mn_tnz, mr_get, mr_ne, mr_put, mu_ne, mu_eq, mj_bk_i, mj_bk_v, mj_bk_x, decide_eq_true_eq, decide_true, decide_false, Bool.false_eq_true, Bool.true_eq_false, reduceCtorEq, mt_le_t, mt_le_f, mt_lt_t, mt_lt_f, mt_eq_t, mt_eq_f, mt_ee, not_true_eq_false, not_false_eq_true, and_true, true_and, and_self, Nat.zero_add, Nat.add_zero, Nat.one_mul, Nat.mul_one, Nat.reduceAdd, Nat.reduceMul, Nat.reduceSub, Nat.reducePow, Nat.reduceDiv, Nat.reduceMod, ↓reduceIte, h1, h2, hP]) (g := ()) trivial
    rcases first_or (fun i => decide (h i = h j)) j with ⟨i, hi, hP, hmin⟩ | hall
    · obtain ⟨-, -, e⟩ := srch i (by omega) hmin
      have hP : h i = h j := of_decide_eq_true hP
      have h1 := hh i (by omega)
      have h2 := hh j hj
      have b2 := hb j hj
      refine ⟨(some (.int (nI 0)), some (.int (nI (i + 1)))), ?_⟩
      rw [if_pos ⟨i, hi, hP⟩]
      refine e.trans ?_
      have fin : mj_exec X d 298 18 [some (.ref 42), some (.int (nI k)), some (.int (nI c)), some (.int (nI j)), some (.int (nI 0)), some (.int (nI (i + 1)))] [] (mw_U w) = mj_exec X d 298 4 [some (.ref 42), some (.int (nI k)), some (.int (nI (c + 0))), some (.int (nI (j + 1))), some (.int (nI 0)), some (.int (nI (i + 1)))] [] (mw_U w) := by
        rw [b298_18]
        by_cases hle : j ≤ i + 1
        · simp (disch := first | assumption | exact hf _ | omega) only [b298, b298_0, b298_12, b298_24, b298_29, b298_55, b298_59, b298_60, b298_68, b298_74, b298_78, b298_79, b298_87, nI_add, mn_mul, mn_sub, mn_m1, mn_m8, mn_eq, mn_lt, mn_le, mn_eq0, mn_0eq, mn_lt0, mn_0lt, mn_le0, mn_0le, mn_eqm, mn_meq, mn_ltm, mn_mlt, mn_lem, mn_mle, mn_mm1, mn_mm2, mn_mm3, mn_mm4, mn_mm5, mn_mm6, mn_and, mn_or, mn_an, mn_shl, mn_shr, mn_div, mn_rem, mn_clamp, mn_in, mn_inm, mn_nz, mn_zo, mn_min, mn_max, mn_abs, mn_rfit, mn_cp, mn_les, mn_gre, mn_a127, mn_a15, mn_a1, mn_a255, mn_tn0, mn_tn0e, mn_tnr, mn_tnz, mr_get, mr_ne, mr_put, mu_ne, mu_eq, mj_bk_i, mj_bk_v, mj_bk_x, decide_eq_true_eq, decide_true, decide_false, Bool.false_eq_true, Bool.true_eq_false, reduceCtorEq, mt_le_t, mt_le_f, mt_lt_t, mt_lt_f, mt_eq_t, mt_eq_f, mt_ee, not_true_eq_false, not_false_eq_true, and_true, true_and, and_self, Nat.zero_add, Nat.add_zero, Nat.one_mul, Nat.mul_one, Nat.reduceAdd, Nat.reduceMul, Nat.reduceSub, Nat.reducePow, Nat.reduceDiv, Nat.reduceMod, ↓reduceIte, hle]
        · simp (disch := first | assumption | exact hf _ | omega) only [b298, b298_0, b298_12, b298_24, b298_29, b298_55, b298_59, b298_60, b298_68, b298_74, b298_78, b298_79, b298_87, nI_add, mn_mul, mn_sub, mn_m1, mn_m8, mn_eq, mn_lt, mn_le, mn_eq0, mn_0eq, mn_lt0, mn_0lt, mn_le0, mn_0le, mn_eqm, mn_meq, mn_ltm, mn_mlt, mn_lem, mn_mle, mn_mm1, mn_mm2, mn_mm3, mn_mm4, mn_mm5, mn_mm6, mn_and, mn_or, mn_an, mn_shl, mn_shr, mn_div, mn_rem, mn_clamp, mn_in, mn_inm, mn_nz, mn_zo, mn_min, mn_max, mn_abs, mn_rfit, mn_cp, mn_les, mn_gre, mn_a127, mn_a15, mn_a1, mn_a255, mn_tn0, mn_tn0e, mn_tnr, mn_tnz, mr_get, mr_ne, mr_put, mu_ne, mu_eq, mj_bk_i, mj_bk_v, mj_bk_x, decide_eq_true_eq, decide_true, decide_false, Bool.false_eq_true, Bool.true_eq_false, reduceCtorEq, mt_le_t, mt_le_f, mt_lt_t, mt_lt_f, mt_eq_t, mt_eq_f, mt_ee, not_true_eq_false, not_false_eq_true, and_true, true_and, and_self, Nat.zero_add, Nat.add_zero, Nat.one_mul, Nat.mul_one, Nat.reduceAdd, Nat.reduceMul, Nat.reduceSub, Nat.reducePow, Nat.reduceDiv, Nat.reduceMod, ↓reduceIte, hle]
      rw [b298_18]
      simp (disch := first | assumption | exact hf _ | omega) only [b298, b298_0, b298_12, b298_24, b298_29, b298_55, b298_59, b298_60, b298_68, b298_74, b298_78, b298_79, b298_87, nI_add, mn_mul, mn_sub, mn_m1, mn_m8, mn_eq, mn_lt, mn_le, mn_eq0, mn_0eq, mn_lt0, mn_0lt, mn_le0, mn_0le, mn_eqm, mn_meq, mn_ltm, mn_mlt, mn_lem, mn_mle, mn_mm1, mn_mm2, mn_mm3, mn_mm4, mn_mm5, mn_mm6, mn_and, mn_or, mn_an, mn_shl, mn_shr, mn_div, mn_rem, mn_clamp, mn_in, mn_inm, mn_nz, mn_zo, mn_min, mn_max, mn_abs, mn_rfit, mn_cp, mn_les, mn_gre, mn_a127, mn_a15, mn_a1, mn_a255, mn_tn0, mn_tn0e, mn_tnr, mn_tnz, mr_get, mr_ne, mr_put, mu_ne, mu_eq, mj_bk_i, mj_bk_v, mj_bk_x, decide_eq_true_eq, decide_true, decide_false, Bool.false_eq_true, Bool.true_eq_false, reduceCtorEq, mt_le_t, mt_le_f, mt_lt_t, mt_lt_f, mt_eq_t, mt_eq_f, mt_ee, not_true_eq_false, not_false_eq_true, and_true, true_and, and_self, Nat.zero_add, Nat.add_zero, Nat.one_mul, Nat.mul_one, Nat.reduceAdd, Nat.reduceMul, Nat.reduceSub, Nat.reducePow, Nat.reduceDiv, Nat.reduceMod, ↓reduceIte, h1, h2, hP]
      exact fin
    · obtain ⟨-, -, e⟩ := srch j (Nat.le_refl _) hall
      refine ⟨(some (.int (nI 1)), some (.int (nI j))), ?_⟩
      rw [if_neg (fun ⟨i, hi, hP⟩ => of_decide_eq_false (hall i hi) hP)]
      refine e.trans ?_
      rw [b298_18]
      simp (disch := first | assumption | exact hf _ | omega) only [b298, b298_0, b298_12, b298_24, b298_29, b298_55, b298_59, b298_60, b298_68, b298_74, b298_78, b298_79, b298_87, nI_add, mn_mul, mn_sub, mn_m1, mn_m8, mn_eq, mn_lt, mn_le, mn_eq0, mn_0eq, mn_lt0, mn_0lt, mn_le0, mn_0le, mn_eqm, mn_meq, mn_ltm, mn_mlt, mn_lem, mn_mle, mn_mm1, mn_mm2, mn_mm3, mn_mm4, mn_mm5, mn_mm6, mn_and, mn_or, mn_an, mn_shl, mn_shr, mn_div, mn_rem, mn_clamp, mn_in, mn_inm, mn_nz, mn_zo, mn_min, mn_max, mn_abs, mn_rfit, mn_cp, mn_les, mn_gre, mn_a127, mn_a15, mn_a1, mn_a255, mn_tn0, mn_tn0e, mn_tnr, mn_tnz, mr_get, mr_ne, mr_put, mu_ne, mu_eq, mj_bk_i, mj_bk_v, mj_bk_x, decide_eq_true_eq, decide_true, decide_false, Bool.false_eq_true, Bool.true_eq_false, reduceCtorEq, mt_le_t, mt_le_f, mt_lt_t, mt_lt_f, mt_eq_t, mt_eq_f, mt_ee, not_true_eq_false, not_false_eq_true, and_true, true_and, and_self, Nat.zero_add, Nat.add_zero, Nat.one_mul, Nat.mul_one, Nat.reduceAdd, Nat.reduceMul, Nat.reduceSub, Nat.reducePow, Nat.reduceDiv, Nat.reduceMod, ↓reduceIte]) (a := 0) trivial (none, none) m (Nat.le_refl _)
  refine e.trans ?_
  rw [b298_4]
  simp (disch := first | assumption | exact hf _ | omega) only [b298, b298_0, b298_12, b298_24, b298_29, b298_55, b298_59, b298_60, b298_68, b298_74, b298_78, b298_79, b298_87, nI_add, mn_mul, mn_sub, mn_m1, mn_m8, mn_eq, mn_lt, mn_le, mn_eq0, mn_0eq, mn_lt0, mn_0lt, mn_le0, mn_0le, mn_eqm, mn_meq, mn_ltm, mn_mlt, mn_lem, mn_mle, mn_mm1, mn_mm2, mn_mm3, mn_mm4, mn_mm5, mn_mm6, mn_and, mn_or, mn_an, mn_shl, mn_shr, mn_div, mn_rem, mn_clamp, mn_in, mn_inm, mn_nz, mn_zo, mn_min, mn_max, mn_abs, mn_rfit, mn_cp, mn_les, mn_gre, mn_a127, mn_a15, mn_a1, mn_a255, mn_tn0, mn_tn0e, mn_tnr, mn_tnz, mr_get, mr_ne, mr_put, mu_ne, mu_eq, mj_bk_i, mj_bk_v, mj_bk_x, decide_eq_true_eq, decide_true, decide_false, Bool.false_eq_true, Bool.true_eq_false, reduceCtorEq, mt_le_t, mt_le_f, mt_lt_t, mt_lt_f, mt_eq_t, mt_eq_f, mt_ee, not_true_eq_false, not_false_eq_true, and_true, true_and, and_self, Nat.zero_add, Nat.add_zero, Nat.one_mul, Nat.mul_one, Nat.reduceAdd, Nat.reduceMul, Nat.reduceSub, Nat.reducePow, Nat.reduceDiv, Nat.reduceMod, ↓reduceIte, h46]
  rfl
/-- heat behind five weeks, by a guess -/
def hv5 (Q : rQ) (f : Nat → Nat) (g i : Nat) : Nat := fh (fwks Q (mr_u f (g / 10) (g % 10)) 5) i
def ulk (Q : rQ) (f : Nat → Nat) (σ : sS) (i : Nat) : Nat := dst (fun j => hv5 Q f ((FL Q f σ 80).getD j 0) i) (FL Q f σ 80).length
def fn_lk (Q : rQ) (f : Nat → Nat) (σ : sS) : Option Nat := mr_it (fun i (o : Option Nat) => if 0 < fh f i ∧ o.elim 0 (ulk Q f σ) < ulk Q f σ i then some i else o) 28 none
theorem m297 (hw : wf f (f 52)) (hq : rM s Q) (ho : rOK Q) (h54 : f 54 ≤ 999) (hS : SM s σ) (hO : sOK σ) {b : Bool} : ∃ t, mj_call X (d + 8) 297 [.ref 42, .int (nI b.toNat)] (mw_U (mp s f)) = some (.inl (some (.int (if b then nI ((fn_lk Q f σ).elim 0 (ulk Q f σ)) else nm (fn_lk Q f σ)))), mw_U (mp t f)) ∧ t.1 42 2 = nI 0 ∧ mh s t := by
  have m0 : mh s (mw_p s 42 2 (nI 0)) := mh_p2 (Or.inl rfl)
  have hn8 := wf_n hw
  have hb1 : (nI b.toNat < 0) = False := by cases b <;> decide
  have hb2 : (nI b.toNat ≤ nI 1) = True := by cases b <;> decide
  obtain ⟨t1, e1, g1, hF⟩ := c296 (X := X) (d := d) (s := mw_p s 42 2 (nI 0)) hw (rM_mh hq m0) ho h54 (SM_mh hS m0) hO
  obtain ⟨t2, e2, r2, p2⟩ := c251 (X := X) (d := d + 7) (s := t1) (f := f) (K := 66) (off := 0) mw_r_66 (by unfold mpx; omega) (by decide) (by decide)
  have hF2 : FM t2 (FL Q f σ 80) := ⟨by rw [r2.2 42 46 (by omega)]; exact hF.1, fun j x hj => by rw [r2.2 71 j (by omega)]; exact hF.2 j x hj⟩
  have hmh2 : mh s t2 := mh_trans m0 (mh_trans (mf_mh g1) (mh_rgn r2 (by unfold gM; omega)))
  have hlen := FL_le (Q := Q) (f := f) (σ := σ) 80
  obtain ⟨t3, ⟨k1, k2, k3, k4, k5⟩, e3⟩ := mr_forg (α := Unit) (γ := mw_S × Option Value × Option Value × Option Value) (E := fun i _ t => mj_exec X (d + 8) 297 35 [some (.ref 42), some (.int (nI b.toNat)), some (.int (nI i)), t.2.1, t.2.2.1, t.2.2.2, none] [] (mw_U (mp t.1 f))) (F := fun _ a => a) (I := fun i _ t => mh s t.1 ∧ FM t.1 (FL Q f σ 80) ∧ hasP t.1 66 0 f (fun _ => True) ∧ t.1.1 42 2 = nI 0 ∧ ∀ j, j < i → ∀ k, k < 64 → t.1.1 72 (64 * j + k) = nI (gh (fwks Q (mr_u f ((FL Q f σ 80).getD j 0 / 10) ((FL Q f σ 80).getD j 0 % 10)) 5) k)) (N := (FL Q f σ 80).length) (by
    intro i _ t hi ⟨k1, k2, k3, k4, k5⟩
    obtain ⟨t, l3, l4, l5⟩ := t
    dsimp only at k1 k2 k3 k4 k5 ⊢
    have hgi : (FL Q f σ 80)[i]? = some ((FL Q f σ 80).getD i 0) := by
      rw [List.getD_eq_getElem?_getD, List.getElem?_eq_getElem hi]; rfl
    have hmem := FL_mem (List.mem_of_getElem? hgi)
    generalize hx : (FL Q f σ 80).getD i 0 = x at *
    have hp8 : x / 10 < 8 := by omega
    have hv9 : x % 10 ≤ 9 := by omega
    have k21 := k2.1
    have k22 := k2.2 i x hgi
    have hwv := wf_nv (v := x % 10) hw hp8 hv9
    obtain ⟨u, eu, gu⟩ := c252 (X := X) (d := d + 1) (s := t) (f := mr_u f (x / 10) (x % 10)) (Q := Q) hwv (rM_mh hq k1) ho (n := 5) (by rw [mu_ne (by omega)]; omega)
    have e55 : mw_p (mp t f) 55 (x / 10) (nI (x % 10)) = mp t (mr_u f (x / 10) (x % 10)) := mp_w55 hp8
    obtain ⟨u2, ⟨j1, j2, j3⟩, e4⟩ := mr_forg (α := Unit) (γ := mw_S) (E := fun k _ u => mj_exec X (d + 8) 297 84 [some (.ref 42), some (.int (nI b.toNat)), some (.int (nI i)), some (.int (nI (x / 10))), some (.int (nI (f (x / 10)))), some (.int (nI k)), none] [] (mw_U (mp u (fwks Q (mr_u f (x / 10) (x % 10)) 5)))) (F := fun _ a => a) (I := fun k _ u' => mg u u' (fun a => a = 72) ∧ (∀ c, (c < 64 * i ∨ 64 * i + k ≤ c) → u'.1 72 c = u.1 72 c) ∧ ∀ c, c < k → u'.1 72 (64 * i + c) = nI (gh (fwks Q (mr_u f (x / 10) (x % 10)) 5) c)) (N := 64) (by
      intro k _ u' hk ⟨j1, j2, j3⟩
      refine ⟨mw_p u' 72 (64 * i + k) (nI (gh (fwks Q (mr_u f (x / 10) (x % 10)) 5) k)), ⟨mg_p j1 rfl, ?_, ?_⟩, ?_⟩
      · intro c hc
        rw [mw_pnj (by omega)]; exact j2 c (by omega)
      · intro c hc
        by_cases he : c = k
        · subst he; rw [mw_peq]
        · rw [mw_pnj (by omega)]; exact j3 c (by omega)
      · rw [b297_84]
        simp (disch := first | assumption | exact hf _ | omega) only [b297, b297_0, b297_9, b297_14, b297_19, b297_20, b297_24, b297_33, b297_43, b297_81, b297_91, b297_116, b297_133, b297_139, b297_157, b297_174, b297_182, b297_185, b297_193, b297_196, b297_199, b297_200, b297_208, b297_211, b297_223, b297_229, b297_235, b297_239, b297_243, b297_244, nI_add, mn_mul, mn_sub, mn_m1, mn_m8, mn_eq, mn_lt, mn_le, mn_eq0, mn_0eq, mn_lt0, mn_0lt, mn_le0, mn_0le, mn_eqm, mn_meq, mn_ltm, mn_mlt, mn_lem, mn_mle, mn_mm1, mn_mm2, mn_mm3, mn_mm4, mn_mm5, mn_mm6, mn_and, mn_or, mn_an, mn_shl, mn_shr, mn_div, mn_rem, mn_clamp, mn_in, mn_inm, mn_nz, mn_zo, mn_min, mn_max, mn_abs, mn_rfit, mn_cp, mn_les, mn_gre, mn_a127, mn_a15, mn_a1, mn_a255, mn_tn0, mn_tn0e, mn_tnr, mn_tnz, mr_get, mr_ne, mr_put, mu_ne, mu_eq, mj_bk_i, mj_bk_v, mj_bk_x, decide_eq_true_eq, decide_true, decide_false, Bool.false_eq_true, Bool.true_eq_false, reduceCtorEq, mt_le_t, mt_le_f, mt_lt_t, mt_lt_f, mt_eq_t, mt_eq_f, mt_ee, not_true_eq_false, not_false_eq_true, and_true, true_and, and_self, Nat.zero_add, Nat.add_zero, Nat.one_mul, Nat.mul_one, Nat.reduceAdd, Nat.reduceMul, Nat.reduceSub, Nat.reducePow, Nat.reduceDiv, Nat.reduceMod, ↓reduceIte, mp_h, mp_w, mp_c, mp_s, mp_d, mp_n, mp_54, mp_52, mp_55, mp_l, mp_o, mp_42, mp_45, gh_gp, gw_gp, gc_gp, mw_pne, Nat.or_zero, mp_wo]) (a := ()) (g := u) ⟨mg_refl, fun _ _ => rfl, fun c hc => by omega⟩ 64 (Nat.le_refl 64)
    have hP2 : hasP u2 66 0 f (fun _ => True) := hasP_mg (hasP_mg k3 gu (by unfold m34; omega)) j1 (by decide)
    have e66 := c268 (X := X) (d := d + 7) (s := u2) (f := f) (g := mr_u (fwks Q (mr_u f (x / 10) (x % 10)) 5) (x / 10) (f (x / 10))) mw_r_66 (by unfold mpx; omega) (by decide) (by decide) hP2 (by
      refine ⟨fun j hj => ?_, ?_, ?_⟩
      · by_cases he : j = x / 10
        · subst he; rw [mu_eq]
        · rw [mu_ne he, fwks_o (by omega), mu_ne he]
      · rw [mu_ne (by omega), fwks_o (by omega), mu_ne (by omega)]
      · exact ⟨by rw [mu_ne (by omega), fwks_o (by omega), mu_ne (by omega)], by rw [mu_ne (by omega), fwks_64, mu_ne (by omega)]⟩)
    have hmu : mh t u2 := mh_trans (mh_mg gu m34g) (mh_mg j1 (fun a h => by unfold gM; omega))
    refine ⟨(u2, some (.int (nI (x / 10))), some (.int (nI (f (x / 10)))), some (.int (nI 64))), ⟨mh_trans k1 hmu, ⟨?_, ?_⟩, hP2, ?_, ?_⟩, ?_⟩
    · rw [j1.2 42 (by decide), gu.2 42 (by unfold m34; omega)]; exact k2.1
    · intro j y hj
      rw [j1.2 71 (by decide), gu.2 71 (by unfold m34; omega)]; exact k2.2 j y hj
    · rw [j1.2 42 (by decide), gu.2 42 (by unfold m34; omega)]; exact k4
    · intro j hj k hk
      by_cases he : j = i
      · subst he; rw [hx]; exact j3 k hk
      · rw [j2 _ (by omega), gu.2 72 (by unfold m34; omega)]; exact k5 j (by omega) k hk
    · have hxd : nI x / nI 10 = nI (x / 10) := mn_div (by omega) (by decide)
      have hxm : x - x / 10 * 10 = x % 10 := by omega
      have w55 : mw_p (mp u2 (fwks Q (mr_u f (x / 10) (x % 10)) 5)) 55 (x / 10) (nI (f (x / 10))) = mp u2 (mr_u (fwks Q (mr_u f (x / 10) (x % 10)) 5) (x / 10) (f (x / 10))) := mp_w55 hp8
      rw [b297_35]
      simp (disch := first | assumption | exact hf _ | omega) only [nI_add, mn_mul, mn_sub, mn_m1, mn_m8, mn_eq, mn_lt, mn_le, mn_eq0, mn_0eq, mn_lt0, mn_0lt, mn_le0, mn_0le, mn_eqm, mn_meq, mn_ltm, mn_mlt, mn_lem, mn_mle, mn_mm1, mn_mm2, mn_mm3, mn_mm4, mn_mm5, mn_mm6, mn_and, mn_or, mn_an, mn_shl, mn_shr, mn_div, mn_rem, mn_clamp, mn_in, mn_inm, mn_nz, mn_zo, mn_min, mn_max, mn_abs, mn_rfit, mn_cp, mn_les, mn_gre, mn_a127, mn_a15, mn_a1, mn_a255, mn_tn0, mn_tn0e, mn_tnr, mn_tnz, mr_get, mr_ne, mr_put, mu_ne, mu_eq, mj_bk_i, mj_bk_v, mj_bk_x, decide_eq_true_eq, decide_true, decide_false, Bool.false_eq_true, Bool.true_eq_false, reduceCtorEq, mt_le_t, mt_le_f, mt_lt_t, mt_lt_f, mt_eq_t, mt_eq_f, mt_ee, not_true_eq_false, not_false_eq_true, and_true, true_and, and_self, Nat.zero_add, Nat.add_zero, Nat.one_mul, Nat.mul_one, Nat.reduceAdd, Nat.reduceMul, Nat.reduceSub, Nat.reducePow, Nat.reduceDiv, Nat.reduceMod, ↓reduceIte, mp_h, mp_w, mp_c, mp_s, mp_d, mp_n, mp_54, mp_52, mp_55, mp_l, mp_o, mp_42, mp_45, gh_gp, gw_gp, gc_gp, mw_pne, Nat.or_zero, k21, b297_43, k22, hxm, e55, eu, b297_81]
      refine e4.trans ?_
      rw [b297_84]
      simp (disch := first | assumption | exact hf _ | omega) only [b297, b297_0, b297_9, b297_14, b297_19, b297_20, b297_24, b297_33, b297_43, b297_81, b297_91, b297_116, b297_133, b297_139, b297_157, b297_174, b297_182, b297_185, b297_193, b297_196, b297_199, b297_200, b297_208, b297_211, b297_223, b297_229, b297_235, b297_239, b297_243, b297_244, nI_add, mn_mul, mn_sub, mn_m1, mn_m8, mn_eq, mn_lt, mn_le, mn_eq0, mn_0eq, mn_lt0, mn_0lt, mn_le0, mn_0le, mn_eqm, mn_meq, mn_ltm, mn_mlt, mn_lem, mn_mle, mn_mm1, mn_mm2, mn_mm3, mn_mm4, mn_mm5, mn_mm6, mn_and, mn_or, mn_an, mn_shl, mn_shr, mn_div, mn_rem, mn_clamp, mn_in, mn_inm, mn_nz, mn_zo, mn_min, mn_max, mn_abs, mn_rfit, mn_cp, mn_les, mn_gre, mn_a127, mn_a15, mn_a1, mn_a255, mn_tn0, mn_tn0e, mn_tnr, mn_tnz, mr_get, mr_ne, mr_put, mu_ne, mu_eq, mj_bk_i, mj_bk_v, mj_bk_x, decide_eq_true_eq, decide_true, decide_false, Bool.false_eq_true, Bool.true_eq_false, reduceCtorEq, mt_le_t, mt_le_f, mt_lt_t, mt_lt_f, mt_eq_t, mt_eq_f, mt_ee, not_true_eq_false, not_false_eq_true, and_true, true_and, and_self, Nat.zero_add, Nat.add_zero, Nat.one_mul, Nat.mul_one, Nat.reduceAdd, Nat.reduceMul, Nat.reduceSub, Nat.reducePow, Nat.reduceDiv, Nat.reduceMod, ↓reduceIte, mp_h, mp_w, mp_c, mp_s, mp_d, mp_n, mp_54, mp_52, mp_55, mp_l, mp_o, mp_42, mp_45, gh_gp, gw_gp, gc_gp, mw_pne, Nat.or_zero, w55, e66]) (a := ()) (g := (t2, none, none, none)) ⟨hmh2, hF2, p2, by rw [r2.2 42 2 (by omega), g1.2.2 2 (by decide), mw_peq], fun j hj => by omega⟩ (FL Q f σ 80).length (Nat.le_refl _)
  obtain ⟨t3, l3, l4, l5⟩ := t3
  dsimp only at k1 k2 k3 k4 k5 e3
  have k21 := k2.1
  refine ⟨t3, ?_, k4, k1⟩
  have e298 : ∀ a b, a < b → b < f 55 → mj_call X (d + 7) 298 [.ref 42, .int (nI (gp a b))] (mw_U (mp t3 f)) = some (.inl (some (.int (nI (ulk Q f σ (fp a b))))), mw_U (mp t3 f)) := by
    intro a b hab hb
    have ha8 : a < 8 := by omega
    have hb8 : b < 8 := by omega
    have hg := gp_lt ha8 hb8
    refine c298 (h := fun j => hv5 Q f ((FL Q f σ 80).getD j 0) (fp a b)) hlen hg (by rw [mp_42 (by decide)]; exact k21) (fun j hj => ?_) (fun j hj => fh_lt _ _)
    rw [mp_o (by omega), k5 j hj _ hg, gh_gp ha8 hb8]
    unfold fhp hv5
    rw [if_neg (by omega)]
  have hul : ∀ i, ulk Q f σ i ≤ 80 := fun i => Nat.le_trans (dst_le _ _) hlen
  have eh : fn_lk Q f σ = mr_it (fun a o => mr_it (fun j (o : Option Nat) => if o.elim 0 (ulk Q f σ) < (if 0 < fh f (fp a (a + 1 + j)) then ulk Q f σ (fp a (a + 1 + j)) else 0) then some (fp a (a + 1 + j)) else o) (f 55 - (a + 1)) o) (f 55) none := by
    have e1 : fn_lk Q f σ = mr_it (fun i (o : Option Nat) => if o.elim 0 (ulk Q f σ) < (if 0 < fh f i then ulk Q f σ i else 0) then some i else o) 28 none := by
      unfold fn_lk
      refine mr_it_congr (fun i o hi => ?_)
      by_cases h0 : 0 < fh f i
      · simp [h0]
      · simp [h0]
    rw [e1]
    refine (pairs_n (G := fun i (o : Option Nat) => if o.elim 0 (ulk Q f σ) < (if 0 < fh f i then ulk Q f σ i else 0) then some i else o) (I := fun _ => True) hn8 (fun _ _ _ _ => trivial) (fun p q o h1 h2 h3 _ => ?_) trivial).symm
    have := fhp_n hw (show p < 8 by omega) h2 h3
    unfold fhp at this
    rw [if_neg (by omega)] at this
    rw [this]
    simp
  have start : mj_call X (d + 8) 297 [.ref 42, .int (nI b.toNat)] (mw_U (mp s f)) = mj_exec X (d + 8) 297 146 [some (.ref 42), some (.int (nI b.toNat)), some (.int (-1)), some (.int (nI 0)), some (.int (nI 0)), l5, none] [] (mw_U (mp t3 f)) := by
    rw [b297]
    simp (disch := first | assumption | exact hf _ | omega) only [b297_0, hb1, ↓reduceIte, b297_9, hb2, mp_wo, b297_20, e1, mj_bk_v, b297_24, e2, b297_33]
    refine e3.trans ?_
    rw [b297_35]
    simp (disch := first | assumption | exact hf _ | omega) only [mp_42, k21, mn_le, mt_le_t, Nat.le_refl, ↓reduceIte, b297_139]
  rw [start, eh]
  obtain ⟨hI, g_, e⟩ := mr_for (E := fun i (o : Option Nat) (l : Option Value × Option Value) => mj_exec X (d + 8) 297 146 [some (.ref 42), some (.int (nI b.toNat)), some (.int (nm o)), some (.int (nI (o.elim 0 (ulk Q f σ)))), some (.int (nI i)), l.1, l.2] [] (mw_U (mp t3 f))) (F := fun a o => mr_it (fun j (o : Option Nat) => if o.elim 0 (ulk Q f σ) < (if 0 < fh f (fp a (a + 1 + j)) then ulk Q f σ (fp a (a + 1 + j)) else 0) then some (fp a (a + 1 + j)) else o) (f 55 - (a + 1)) o) (I := fun _ o => ∀ i, o = some i → 0 < fh f i) (N := f 55) (by
    intro a o l ha hIo
    obtain ⟨hI2, l6, e⟩ := mr_for (E := fun j (o : Option Nat) (l : Option Value) => mj_exec X (d + 8) 297 163 [some (.ref 42), some (.int (nI b.toNat)), some (.int (nm o)), some (.int (nI (o.elim 0 (ulk Q f σ)))), some (.int (nI a)), some (.int (nI (a + 1 + j))), l] [] (mw_U (mp t3 f))) (F := fun j (o : Option Nat) => if o.elim 0 (ulk Q f σ) < (if 0 < fh f (fp a (a + 1 + j)) then ulk Q f σ (fp a (a + 1 + j)) else 0) then some (fp a (a + 1 + j)) else o) (I := fun _ o => ∀ i, o = some i → 0 < fh f i) (N := f 55 - (a + 1)) (by
      intro j o l hj hIo
      have ha8 : a < 8 := by omega
      have hb8 : a + 1 + j < 8 := by omega
      have hne : ¬ a = a + 1 + j := by omega
      have hul1 := hul (fp a (a + 1 + j))
      have he : o.elim 0 (ulk Q f σ) ≤ 80 := by
        cases o with
        | none => exact Nat.zero_le _
        | some b => exact hul b
      have ep : fhp f a (a + 1 + j) = fh f (fp a (a + 1 + j)) := by unfold fhp; rw [if_neg hne]
      have en : nm (some (fp a (a + 1 + j))) = nI (10 * a + (a + 1 + j)) := by
        unfold nm
        obtain ⟨k1, k2⟩ := fp_l (show a < a + 1 + j by omega) hb8
        dsimp only
        rw [k1, k2]
      have e9 := e298 a (a + 1 + j) (by omega) (by omega)
      refine ⟨?_, ?_⟩
      · intro i hi
        by_cases hlt : o.elim 0 (ulk Q f σ) < (if 0 < fh f (fp a (a + 1 + j)) then ulk Q f σ (fp a (a + 1 + j)) else 0)
        · rw [if_pos hlt] at hi
          cases hi
          by_cases h0 : 0 < fh f (fp a (a + 1 + j))
          · exact h0
          · rw [if_neg h0] at hlt; omega
        · rw [if_neg hlt] at hi; exact hIo i hi
      rw [show a + 1 + (j + 1) = a + 1 + j + 1 from rfl, b297_163]
      by_cases h0 : 0 < fh f (fp a (a + 1 + j))
      · by_cases h : o.elim 0 (ulk Q f σ) < ulk Q f σ (fp a (a + 1 + j))
        · refine ⟨some (.int (nI (ulk Q f σ (fp a (a + 1 + j))))), ?_⟩
          simp only [if_pos h0, if_pos h, en, Option.elim_some]
          simp (disch := first | assumption | exact hf _ | omega) only [b297, b297_0, b297_9, b297_14, b297_19, b297_20, b297_24, b297_33, b297_43, b297_81, b297_91, b297_116, b297_133, b297_139, b297_157, b297_174, b297_182, b297_185, b297_193, b297_196, b297_199, b297_200, b297_208, b297_211, b297_223, b297_229, b297_235, b297_239, b297_243, b297_244, nI_add, mn_mul, mn_sub, mn_m1, mn_m8, mn_eq, mn_lt, mn_le, mn_eq0, mn_0eq, mn_lt0, mn_0lt, mn_le0, mn_0le, mn_eqm, mn_meq, mn_ltm, mn_mlt, mn_lem, mn_mle, mn_mm1, mn_mm2, mn_mm3, mn_mm4, mn_mm5, mn_mm6, mn_and, mn_or, mn_an, mn_shl, mn_shr, mn_div, mn_rem, mn_clamp, mn_in, mn_inm, mn_nz, mn_zo, mn_min, mn_max, mn_abs, mn_rfit, mn_cp, mn_les, mn_gre, mn_a127, mn_a15, mn_a1, mn_a255, mn_tn0, mn_tn0e, mn_tnr, mn_tnz, mr_get, mr_ne, mr_put, mu_ne, mu_eq, mj_bk_i, mj_bk_v, mj_bk_x, decide_eq_true_eq, decide_true, decide_false, Bool.false_eq_true, Bool.true_eq_false, reduceCtorEq, mt_le_t, mt_le_f, mt_lt_t, mt_lt_f, mt_eq_t, mt_eq_f, mt_ee, not_true_eq_false, not_false_eq_true, and_true, true_and, and_self, Nat.zero_add, Nat.add_zero, Nat.one_mul, Nat.mul_one, Nat.reduceAdd, Nat.reduceMul, Nat.reduceSub, Nat.reducePow, Nat.reduceDiv, Nat.reduceMod, ↓reduceIte, mp_h, mp_w, mp_c, mp_s, mp_d, mp_n, mp_54, mp_52, mp_55, mp_l, mp_o, mp_42, mp_45, gh_gp, gw_gp, gc_gp, mw_pne, Nat.or_zero, c229 ha8 hb8, ep, h0, c222 ha8 hb8, e9, h]
        · refine ⟨some (.int (nI (ulk Q f σ (fp a (a + 1 + j))))), ?_⟩
          simp only [if_pos h0, if_neg h]
          simp (disch := first | assumption | exact hf _ | omega) only [b297, b297_0, b297_9, b297_14, b297_19, b297_20, b297_24, b297_33, b297_43, b297_81, b297_91, b297_116, b297_133, b297_139, b297_157, b297_174, b297_182, b297_185, b297_193, b297_196, b297_199, b297_200, b297_208, b297_211, b297_223, b297_229, b297_235, b297_239, b297_243, b297_244, nI_add, mn_mul, mn_sub, mn_m1, mn_m8, mn_eq, mn_lt, mn_le, mn_eq0, mn_0eq, mn_lt0, mn_0lt, mn_le0, mn_0le, mn_eqm, mn_meq, mn_ltm, mn_mlt, mn_lem, mn_mle, mn_mm1, mn_mm2, mn_mm3, mn_mm4, mn_mm5, mn_mm6, mn_and, mn_or, mn_an, mn_shl, mn_shr, mn_div, mn_rem, mn_clamp, mn_in, mn_inm, mn_nz, mn_zo, mn_min, mn_max, mn_abs, mn_rfit, mn_cp, mn_les, mn_gre, mn_a127, mn_a15, mn_a1, mn_a255, mn_tn0, mn_tn0e, mn_tnr, mn_tnz, mr_get, mr_ne, mr_put, mu_ne, mu_eq, mj_bk_i, mj_bk_v, mj_bk_x, decide_eq_true_eq, decide_true, decide_false, Bool.false_eq_true, Bool.true_eq_false, reduceCtorEq, mt_le_t, mt_le_f, mt_lt_t, mt_lt_f, mt_eq_t, mt_eq_f, mt_ee, not_true_eq_false, not_false_eq_true, and_true, true_and, and_self, Nat.zero_add, Nat.add_zero, Nat.one_mul, Nat.mul_one, Nat.reduceAdd, Nat.reduceMul, Nat.reduceSub, Nat.reducePow, Nat.reduceDiv, Nat.reduceMod, ↓reduceIte, mp_h, mp_w, mp_c, mp_s, mp_d, mp_n, mp_54, mp_52, mp_55, mp_l, mp_o, mp_42, mp_45, gh_gp, gw_gp, gc_gp, mw_pne, Nat.or_zero, c229 ha8 hb8, ep, h0, c222 ha8 hb8, e9, h]
      · refine ⟨some (.int (nI 0)), ?_⟩
        have hno : ¬ o.elim 0 (ulk Q f σ) < 0 := Nat.not_lt_zero _
        simp only [if_neg h0, if_neg hno]
        simp (disch := first | assumption | exact hf _ | omega) only [b297, b297_0, b297_9, b297_14, b297_19, b297_20, b297_24, b297_33, b297_43, b297_81, b297_91, b297_116, b297_133, b297_139, b297_157, b297_174, b297_182, b297_185, b297_193, b297_196, b297_199, b297_200, b297_208, b297_211, b297_223, b297_229, b297_235, b297_239, b297_243, b297_244, nI_add, mn_mul, mn_sub, mn_m1, mn_m8, mn_eq, mn_lt, mn_le, mn_eq0, mn_0eq, mn_lt0, mn_0lt, mn_le0, mn_0le, mn_eqm, mn_meq, mn_ltm, mn_mlt, mn_lem, mn_mle, mn_mm1, mn_mm2, mn_mm3, mn_mm4, mn_mm5, mn_mm6, mn_and, mn_or, mn_an, mn_shl, mn_shr, mn_div, mn_rem, mn_clamp, mn_in, mn_inm, mn_nz, mn_zo, mn_min, mn_max, mn_abs, mn_rfit, mn_cp, mn_les, mn_gre, mn_a127, mn_a15, mn_a1, mn_a255, mn_tn0, mn_tn0e, mn_tnr, mn_tnz, mr_get, mr_ne, mr_put, mu_ne, mu_eq, mj_bk_i, mj_bk_v, mj_bk_x, decide_eq_true_eq, decide_true, decide_false, Bool.false_eq_true, Bool.true_eq_false, reduceCtorEq, mt_le_t, mt_le_f, mt_lt_t, mt_lt_f, mt_eq_t, mt_eq_f, mt_ee, not_true_eq_false, not_false_eq_true, and_true, true_and, and_self, Nat.zero_add, Nat.add_zero, Nat.one_mul, Nat.mul_one, Nat.reduceAdd, Nat.reduceMul, Nat.reduceSub, Nat.reducePow, Nat.reduceDiv, Nat.reduceMod, ↓reduceIte, mp_h, mp_w, mp_c, mp_s, mp_d, mp_n, mp_54, mp_52, mp_55, mp_l, mp_o, mp_42, mp_45, gh_gp, gw_gp, gc_gp, mw_pne, Nat.or_zero, c229 ha8 hb8, ep, h0, hno]) (a := o) hIo l.2 (f 55 - (a + 1)) (Nat.le_refl _)
    refine ⟨hI2, (some (.int (nI (a + 1 + (f 55 - (a + 1))))), l6), ?_⟩
    rw [b297_146]
    simp (disch := first | assumption | exact hf _ | omega) only [mn_in, decide_eq_true_eq, mt_lt_t, mn_clamp, mp_55, mn_le, mt_le_f, ↓reduceIte, b297_157, nI_add]
    refine e.trans ?_
    rw [b297_163]
    simp (disch := first | assumption | exact hf _ | omega) only [b297, b297_0, b297_9, b297_14, b297_19, b297_20, b297_24, b297_33, b297_43, b297_81, b297_91, b297_116, b297_133, b297_139, b297_157, b297_174, b297_182, b297_185, b297_193, b297_196, b297_199, b297_200, b297_208, b297_211, b297_223, b297_229, b297_235, b297_239, b297_243, b297_244, nI_add, mn_mul, mn_sub, mn_m1, mn_m8, mn_eq, mn_lt, mn_le, mn_eq0, mn_0eq, mn_lt0, mn_0lt, mn_le0, mn_0le, mn_eqm, mn_meq, mn_ltm, mn_mlt, mn_lem, mn_mle, mn_mm1, mn_mm2, mn_mm3, mn_mm4, mn_mm5, mn_mm6, mn_and, mn_or, mn_an, mn_shl, mn_shr, mn_div, mn_rem, mn_clamp, mn_in, mn_inm, mn_nz, mn_zo, mn_min, mn_max, mn_abs, mn_rfit, mn_cp, mn_les, mn_gre, mn_a127, mn_a15, mn_a1, mn_a255, mn_tn0, mn_tn0e, mn_tnr, mn_tnz, mr_get, mr_ne, mr_put, mu_ne, mu_eq, mj_bk_i, mj_bk_v, mj_bk_x, decide_eq_true_eq, decide_true, decide_false, Bool.false_eq_true, Bool.true_eq_false, reduceCtorEq, mt_le_t, mt_le_f, mt_lt_t, mt_lt_f, mt_eq_t, mt_eq_f, mt_ee, not_true_eq_false, not_false_eq_true, and_true, true_and, and_self, Nat.zero_add, Nat.add_zero, Nat.one_mul, Nat.mul_one, Nat.reduceAdd, Nat.reduceMul, Nat.reduceSub, Nat.reducePow, Nat.reduceDiv, Nat.reduceMod, ↓reduceIte, mp_h, mp_w, mp_c, mp_s, mp_d, mp_n, mp_54, mp_52, mp_55, mp_l, mp_o, mp_42, mp_45, gh_gp, gw_gp, gc_gp, mw_pne, Nat.or_zero]) (a := none) (by intro i hi; cases hi) (l5, none) (f 55) (Nat.le_refl _)
  refine e.trans ?_
  rw [b297_146]
  cases b
  · simp (disch := first | assumption | exact hf _ | omega) only [b297, b297_0, b297_9, b297_14, b297_19, b297_20, b297_24, b297_33, b297_43, b297_81, b297_91, b297_116, b297_133, b297_139, b297_157, b297_174, b297_182, b297_185, b297_193, b297_196, b297_199, b297_200, b297_208, b297_211, b297_223, b297_229, b297_235, b297_239, b297_243, b297_244, nI_add, mn_mul, mn_sub, mn_m1, mn_m8, mn_eq, mn_lt, mn_le, mn_eq0, mn_0eq, mn_lt0, mn_0lt, mn_le0, mn_0le, mn_eqm, mn_meq, mn_ltm, mn_mlt, mn_lem, mn_mle, mn_mm1, mn_mm2, mn_mm3, mn_mm4, mn_mm5, mn_mm6, mn_and, mn_or, mn_an, mn_shl, mn_shr, mn_div, mn_rem, mn_clamp, mn_in, mn_inm, mn_nz, mn_zo, mn_min, mn_max, mn_abs, mn_rfit, mn_cp, mn_les, mn_gre, mn_a127, mn_a15, mn_a1, mn_a255, mn_tn0, mn_tn0e, mn_tnr, mn_tnz, mr_get, mr_ne, mr_put, mu_ne, mu_eq, mj_bk_i, mj_bk_v, mj_bk_x, decide_eq_true_eq, decide_true, decide_false, Bool.false_eq_true, Bool.true_eq_false, reduceCtorEq, mt_le_t, mt_le_f, mt_lt_t, mt_lt_f, mt_eq_t, mt_eq_f, mt_ee, not_true_eq_false, not_false_eq_true, and_true, true_and, and_self, Nat.zero_add, Nat.add_zero, Nat.one_mul, Nat.mul_one, Nat.reduceAdd, Nat.reduceMul, Nat.reduceSub, Nat.reducePow, Nat.reduceDiv, Nat.reduceMod, ↓reduceIte, mp_h, mp_w, mp_c, mp_s, mp_d, mp_n, mp_54, mp_52, mp_55, mp_l, mp_o, mp_42, mp_45, gh_gp, gw_gp, gc_gp, mw_pne, Nat.or_zero, Bool.toNat_false]
  · simp (disch := first | assumption | exact hf _ | omega) only [b297, b297_0, b297_9, b297_14, b297_19, b297_20, b297_24, b297_33, b297_43, b297_81, b297_91, b297_116, b297_133, b297_139, b297_157, b297_174, b297_182, b297_185, b297_193, b297_196, b297_199, b297_200, b297_208, b297_211, b297_223, b297_229, b297_235, b297_239, b297_243, b297_244, nI_add, mn_mul, mn_sub, mn_m1, mn_m8, mn_eq, mn_lt, mn_le, mn_eq0, mn_0eq, mn_lt0, mn_0lt, mn_le0, mn_0le, mn_eqm, mn_meq, mn_ltm, mn_mlt, mn_lem, mn_mle, mn_mm1, mn_mm2, mn_mm3, mn_mm4, mn_mm5, mn_mm6, mn_and, mn_or, mn_an, mn_shl, mn_shr, mn_div, mn_rem, mn_clamp, mn_in, mn_inm, mn_nz, mn_zo, mn_min, mn_max, mn_abs, mn_rfit, mn_cp, mn_les, mn_gre, mn_a127, mn_a15, mn_a1, mn_a255, mn_tn0, mn_tn0e, mn_tnr, mn_tnz, mr_get, mr_ne, mr_put, mu_ne, mu_eq, mj_bk_i, mj_bk_v, mj_bk_x, decide_eq_true_eq, decide_true, decide_false, Bool.false_eq_true, Bool.true_eq_false, reduceCtorEq, mt_le_t, mt_le_f, mt_lt_t, mt_lt_f, mt_eq_t, mt_eq_f, mt_ee, not_true_eq_false, not_false_eq_true, and_true, true_and, and_self, Nat.zero_add, Nat.add_zero, Nat.one_mul, Nat.mul_one, Nat.reduceAdd, Nat.reduceMul, Nat.reduceSub, Nat.reducePow, Nat.reduceDiv, Nat.reduceMod, ↓reduceIte, mp_h, mp_w, mp_c, mp_s, mp_d, mp_n, mp_54, mp_52, mp_55, mp_l, mp_o, mp_42, mp_45, gh_gp, gw_gp, gc_gp, mw_pne, Nat.or_zero, Bool.toNat_true]
end
