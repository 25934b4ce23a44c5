/-! the reference: which word, a sign, a number, a code laid -/
def kK (o : Bool) : Nat := if o then 53 else 52
def kW (o : Bool) : Nat := if o then 5 else 4
def fE (o : Bool) (s t : mw_S) : Prop := t.2 = s.2 ∧ (∀ c, ¬ c = 42 → ¬ c = 45 → ¬ c = kK o → t.1 c = s.1 c) ∧ (∀ b, ¬ b = kW o → t.1 45 b = s.1 45 b) ∧ (∀ b, b < 700 → t.1 (kK o) b = s.1 (kK o) b) ∧ (∀ b, ¬ b = 16 → ¬ b = 18 → ¬ b = 19 → ¬ b = 20 → ¬ b = 21 → ¬ b = 22 → ¬ b = 23 → t.1 42 b = s.1 42 b)
theorem fE_refl {o : Bool} {s : mw_S} : fE o s s := ⟨rfl, fun _ _ _ _ => rfl, fun _ _ => rfl, fun _ _ => rfl, fun _ _ _ _ _ _ _ _ => rfl⟩
theorem fE_trans {o : Bool} {s t u : mw_S} (h : fE o s t) (h2 : fE o t u) : fE o s u := ⟨h2.1.trans h.1, fun c a b e => (h2.2.1 c a b e).trans (h.2.1 c a b e), fun b e => (h2.2.2.1 b e).trans (h.2.2.1 b e), fun b e => (h2.2.2.2.1 b e).trans (h.2.2.2.1 b e), fun b a1 a2 a3 a4 a5 a6 a7 => (h2.2.2.2.2 b a1 a2 a3 a4 a5 a6 a7).trans (h.2.2.2.2 b a1 a2 a3 a4 a5 a6 a7)⟩
theorem kK_ne (o : Bool) : ¬ kK o = 42 ∧ ¬ kK o = 45 ∧ ¬ kK o = 56 := by cases o <;> decide
theorem fE_R {o : Bool} {s t : mw_S} (h : fR s t) : fE o s t := ⟨h.1, fun c a _ _ => h.2.1 c a, fun b _ => by rw [h.2.1 45 (by decide)], fun b _ => by rw [h.2.1 (kK o) (kK_ne o).1], fun b a1 a2 a3 a4 a5 _ _ => h.2.2 b a1 a2 a3 a4 a5⟩
theorem fE_p {o : Bool} {s : mw_S} {b : Nat} {v : Int32} (hb : b = 22 ∨ b = 23) : fE o s (mw_p s 42 b v) := ⟨rfl, fun c h _ _ => by funext x; exact mw_pne h, fun x _ => mw_pne (by decide), fun x _ => mw_pne (kK_ne o).1, fun x a1 a2 a3 a4 a5 a6 a7 => mw_pnj (by omega)⟩
/-- the reference in an EXPR: at a, no fault, with these codes -/
def GR (o : Bool) (s : mw_S) (tp : Nat → Nat) (n a : Nat) (r : List Nat) : Prop := TR s tp n a ∧ s.1 42 22 = nI 0 ∧ s.1 42 25 = nI o.toNat ∧ s.1 45 (kW o) = nI r.length ∧ r.length ≤ 700 ∧ ∀ j, j < r.length → s.1 (kK o) (700 + j) = rm (r.getD j 0)
/-- the class in an EXPR -/
def GC (s : mw_S) (tp : Nat → Nat) (n a : Nat) (l : List Nat) : Prop := TC s tp n a ∧ s.1 27 1 = nI l.length ∧ l.length ≤ 700 ∧ (∀ j, j < l.length → s.1 28 j = rc (l.getD j 0)) ∧ s.1 22 4 = -1
section
variable {X : mj_X} {d : Nat} {s t : mw_S} {f : Nat → Nat} {tp : Nat → Nat} {n a : Nat} {o : Bool} {r l : List Nat}
theorem mp_w45 {j : Nat} {v : Int32} (h : ¬ j = 0) : mw_p (mp s f) 45 j v = mp (mw_p s 45 j v) f := by
  refine Prod.ext ?_ rfl
  funext x y
  unfold mp mq
  simp only [mw_p1]
  by_cases hx : x = 45 ∧ y = j
  · obtain ⟨rfl, rfl⟩ := hx
    simp [h]
  · simp only [if_neg hx]
theorem GR_fR (h : GR o s tp n a r) {b : Nat} (ht : TR t tp n b) (hf : fR s t) : GR o t tp n b r := by
  obtain ⟨h1, h2, h3, h4, h5, h6⟩ := h
  refine ⟨ht, ?_, ?_, ?_, h5, fun j hj => ?_⟩
  · rw [hf.2.2 22 (by decide) (by decide) (by decide) (by decide) (by decide)]; exact h2
  · rw [hf.2.2 25 (by decide) (by decide) (by decide) (by decide) (by decide)]; exact h3
  · rw [hf.2.1 45 (by decide)]; exact h4
  · rw [hf.2.1 _ (kK_ne o).1]; exact h6 j hj
theorem g198 (h : GR o s tp n a r) : ∃ t, mj_call X (d + 2) 198 [.ref 42] (mw_U (mp s f)) = some (.inl none, mw_U (mp t f)) ∧ GR o t tp n (te tp n a) r ∧ fE o s t := by
  obtain ⟨t, e, h1, h2⟩ := c198 (X := X) (d := d) (f := f) (TR_PR h.1)
  exact ⟨t, e, GR_fR h h1 h2, fE_R h2⟩
theorem getD_app {c j : Nat} (hj : j < r.length + 1) : (r ++ [c]).getD j 0 = if j < r.length then r.getD j 0 else c := by
  by_cases q : j < r.length
  · rw [if_pos q, List.getD_eq_getElem?_getD, List.getElem?_append_left q, ← List.getD_eq_getElem?_getD]
  · rw [if_neg q, List.getD_eq_getElem?_getD, List.getElem?_append_right (by omega), show j - r.length = 0 by omega]
    rfl
theorem c216 (h : GR o s tp n a r) (hr : r.length < 700) {c : Nat} {x : Int32} (hx : x = rm c) : ∃ t, mj_call X d 216 [.ref 42, .int x] (mw_U (mp s f)) = some (.inl none, mw_U (mp t f)) ∧ GR o t tp n a (r ++ [c]) ∧ fE o s t := by
  obtain ⟨⟨ha, hn, h17, h16, h18, h19, h20, h21, h56⟩, h22, h25, h45, h7, hk⟩ := h
  have r52 := mw_r_52
  have r53 := mw_r_53
  have hK : mw_rw (kK o) = some (.int, 1400) := by cases o; exact mw_r_52; exact mw_r_53
  have hne := kK_ne o
  refine ⟨mw_p (mw_p s (kK o) (700 + r.length) x) 45 (kW o) (nI (r.length + 1)), ?_, ⟨⟨ha, hn, ?_, ?_, ?_, ?_, ?_, ?_, ?_⟩, ?_, ?_, ?_, ?_, ?_⟩, ⟨rfl, ?_, ?_, ?_, ?_⟩⟩
  · have e0 : ∀ v, (mw_p s (kK o) (700 + r.length) v).1 45 (kW o) = nI r.length := fun v => by rw [mw_pne (fun z => hne.2.1 z.symm)]; exact h45
    cases o
    · have h25 : s.1 42 25 = nI 0 := h25
      have h45 : s.1 45 4 = nI r.length := h45
      have e0 : ∀ v, (mw_p s 52 (700 + r.length) v).1 45 4 = nI r.length := e0
      show mj_call X d 216 [.ref 42, .int x] (mw_U (mp s f)) = some (.inl none, mw_U (mp (mw_p (mw_p s 52 (700 + r.length) x) 45 4 (nI (r.length + 1))) f))
      simp (disch := first | assumption | exact hf _ | omega) only [b216, b216_0, b216_7, b216_8, b216_16, b216_20, b216_21, b216_30, b216_37, b216_41, nI_add, mn_mul, mn_sub, mn_m1, mn_m8, mn_eq, mn_lt, mn_le, mn_eq0, mn_0eq, mn_lt0, mn_0lt, mn_le0, mn_0le, mn_eqm, mn_meq, mn_ltm, mn_mlt, mn_lem, mn_mle, mn_mm1, mn_mm2, mn_mm3, mn_mm4, mn_mm5, mn_mm6, mn_and, mn_or, mn_an, mn_shl, mn_shr, mn_div, mn_rem, mn_clamp, mn_in, mn_inm, mn_nz, mn_zo, mn_min, mn_max, mn_abs, mn_rfit, mn_cp, mn_les, mn_gre, mn_a127, mn_a15, mn_a1, mn_a255, mn_tn0, mn_tn0e, mn_tnr, mn_tnz, mr_get, mr_ne, mr_put, mu_ne, mu_eq, mj_bk_i, mj_bk_v, mj_bk_x, decide_eq_true_eq, decide_true, decide_false, Bool.false_eq_true, Bool.true_eq_false, reduceCtorEq, mt_le_t, mt_le_f, mt_lt_t, mt_lt_f, mt_eq_t, mt_eq_f, mt_ee, not_true_eq_false, not_false_eq_true, and_true, true_and, and_self, Nat.zero_add, Nat.add_zero, Nat.one_mul, Nat.mul_one, Nat.reduceAdd, Nat.reduceMul, Nat.reduceSub, Nat.reducePow, Nat.reduceDiv, Nat.reduceMod, ↓reduceIte, mp_h, mp_w, mp_c, mp_s, mp_d, mp_n, mp_54, mp_52, mp_55, mp_l, mp_o, mp_42, mp_45, gh_gp, gw_gp, gc_gp, mw_pne, Nat.or_zero, mp_wo, mp_w45, h22, h25, h45, e0]
    · have h25 : s.1 42 25 = nI 1 := h25
      have h45 : s.1 45 5 = nI r.length := h45
      have e0 : ∀ v, (mw_p s 53 (700 + r.length) v).1 45 5 = nI r.length := e0
      show mj_call X d 216 [.ref 42, .int x] (mw_U (mp s f)) = some (.inl none, mw_U (mp (mw_p (mw_p s 53 (700 + r.length) x) 45 5 (nI (r.length + 1))) f))
      simp (disch := first | assumption | exact hf _ | omega) only [b216, b216_0, b216_7, b216_8, b216_16, b216_20, b216_21, b216_30, b216_37, b216_41, nI_add, mn_mul, mn_sub, mn_m1, mn_m8, mn_eq, mn_lt, mn_le, mn_eq0, mn_0eq, mn_lt0, mn_0lt, mn_le0, mn_0le, mn_eqm, mn_meq, mn_ltm, mn_mlt, mn_lem, mn_mle, mn_mm1, mn_mm2, mn_mm3, mn_mm4, mn_mm5, mn_mm6, mn_and, mn_or, mn_an, mn_shl, mn_shr, mn_div, mn_rem, mn_clamp, mn_in, mn_inm, mn_nz, mn_zo, mn_min, mn_max, mn_abs, mn_rfit, mn_cp, mn_les, mn_gre, mn_a127, mn_a15, mn_a1, mn_a255, mn_tn0, mn_tn0e, mn_tnr, mn_tnz, mr_get, mr_ne, mr_put, mu_ne, mu_eq, mj_bk_i, mj_bk_v, mj_bk_x, decide_eq_true_eq, decide_true, decide_false, Bool.false_eq_true, Bool.true_eq_false, reduceCtorEq, mt_le_t, mt_le_f, mt_lt_t, mt_lt_f, mt_eq_t, mt_eq_f, mt_ee, not_true_eq_false, not_false_eq_true, and_true, true_and, and_self, Nat.zero_add, Nat.add_zero, Nat.one_mul, Nat.mul_one, Nat.reduceAdd, Nat.reduceMul, Nat.reduceSub, Nat.reducePow, Nat.reduceDiv, Nat.reduceMod, ↓reduceIte, mp_h, mp_w, mp_c, mp_s, mp_d, mp_n, mp_54, mp_52, mp_55, mp_l, mp_o, mp_42, mp_45, gh_gp, gw_gp, gc_gp, mw_pne, Nat.or_zero, mp_wo, mp_w45, h22, h25, h45, e0]
  · rw [mw_pne (by decide), mw_pne (fun z => hne.1 z.symm)]; exact h17
  · rw [mw_pne (by decide), mw_pne (fun z => hne.1 z.symm)]; exact h16
  · rw [mw_pne (by decide), mw_pne (fun z => hne.1 z.symm)]; exact h18
  · intro q; rw [mw_pne (by decide), mw_pne (fun z => hne.1 z.symm)]; exact h19 q
  · rw [mw_pne (by decide), mw_pne (fun z => hne.1 z.symm)]; exact h20
  · rw [mw_pne (by decide), mw_pne (fun z => hne.1 z.symm)]; exact h21
  · intro j hj; rw [mw_pne (by decide), mw_pne (fun z => hne.2.2 z.symm)]; exact h56 j hj
  · rw [mw_pne (by decide), mw_pne (fun z => hne.1 z.symm)]; exact h22
  · rw [mw_pne (by decide), mw_pne (fun z => hne.1 z.symm)]; exact h25
  · rw [mw_peq, List.length_append]; rfl
  · rw [List.length_append]; exact hr
  · intro j hj
    rw [List.length_append] at hj
    rw [mw_pne hne.2.1, getD_app hj]
    by_cases q : j < r.length
    · rw [if_pos q, mw_pnj (by omega)]; exact hk j q
    · have : j = r.length := by
        have : j < r.length + 1 := hj
        omega
      rw [if_neg q, this, mw_peq, hx]
  · intro c h1 h2 h3
    funext y
    rw [mw_pne h2, mw_pne h3]
  · intro b hb
    rw [mw_pnj hb, mw_pne (fun z => hne.2.1 z.symm)]
  · intro b hb
    rw [mw_pne hne.2.1, mw_pnj (by omega)]
  · intro b _ _ _ _ _ _ _
    rw [mw_pne (by decide), mw_pne (fun z => hne.1 z.symm)]
theorem c216b {k : Nat} {x : Int32} (h22 : s.1 42 22 = nI k) (hk : 0 < k) (hk2 : k < 10) : mj_call X d 216 [.ref 42, .int x] (mw_U (mp s f)) = some (.inl none, mw_U (mp s f)) := by
  have n0 : ¬ k = 0 := by omega
  simp (disch := first | assumption | exact hf _ | omega) only [b216, b216_0, b216_7, b216_8, b216_16, b216_20, b216_21, b216_30, b216_37, b216_41, nI_add, mn_mul, mn_sub, mn_m1, mn_m8, mn_eq, mn_lt, mn_le, mn_eq0, mn_0eq, mn_lt0, mn_0lt, mn_le0, mn_0le, mn_eqm, mn_meq, mn_ltm, mn_mlt, mn_lem, mn_mle, mn_mm1, mn_mm2, mn_mm3, mn_mm4, mn_mm5, mn_mm6, mn_and, mn_or, mn_an, mn_shl, mn_shr, mn_div, mn_rem, mn_clamp, mn_in, mn_inm, mn_nz, mn_zo, mn_min, mn_max, mn_abs, mn_rfit, mn_cp, mn_les, mn_gre, mn_a127, mn_a15, mn_a1, mn_a255, mn_tn0, mn_tn0e, mn_tnr, mn_tnz, mr_get, mr_ne, mr_put, mu_ne, mu_eq, mj_bk_i, mj_bk_v, mj_bk_x, decide_eq_true_eq, decide_true, decide_false, Bool.false_eq_true, Bool.true_eq_false, reduceCtorEq, mt_le_t, mt_le_f, mt_lt_t, mt_lt_f, mt_eq_t, mt_eq_f, mt_ee, not_true_eq_false, not_false_eq_true, and_true, true_and, and_self, Nat.zero_add, Nat.add_zero, Nat.one_mul, Nat.mul_one, Nat.reduceAdd, Nat.reduceMul, Nat.reduceSub, Nat.reducePow, Nat.reduceDiv, Nat.reduceMod, ↓reduceIte, mp_h, mp_w, mp_c, mp_s, mp_d, mp_n, mp_54, mp_52, mp_55, mp_l, mp_o, mp_42, mp_45, gh_gp, gw_gp, gc_gp, mw_pne, Nat.or_zero, h22, n0]
theorem d204_12 : decode prog_12_method_18_code 12 = .ok (.invokevirtual 205, 3) := by decide +kernel
theorem b204_12 {k1 v : Nat} {x2 : Int32} : mj_exec X (d + 1) 204 12 [some (.ref 42), some (.ref k1), some (.int x2)] [.ref v, .ref 42] (mw_U s) = (mj_call X d 205 [.ref 42, .ref v] (mw_U s)).bind (mj_bk X (d + 1) 204 15 [some (.ref 42), some (.ref k1), some (.int x2)] []) := mw_q_callv mw_m204 rfl d204_12 mw_p9_205 mw_m205 rfl rfl (Nat.le_of_ble_eq_true rfl) (Nat.le_of_ble_eq_true rfl) rfl (mw_rcv mw_c_42) rfl rfl
theorem c204v (h : TR s tp n a) (h22 : s.1 42 22 = nI 0) : mj_call X (d + 5) 204 [.ref 42, .ref 44] (mw_U (mp s f)) = some (.inl (some (.int (if tkd tp n a = 1 ∧ wx tp (tb tp n a) (te tp n a) < 6 then nI (wx tp (tb tp n a) (te tp n a)) else -1))), mw_U (mp s f)) := by
  have t44 := mw_t_44
  have lk : ∀ k, k < 6 → [1000110, 1000111, 1000112, 1000113, 1000114, 1000115][k]? = some (1000100 + (10 + k)) ∧ sw (10 + k) = k := by decide
  have st : ∀ k, k < 6 → mj_exec X (d + 5) 204 2 [some (.ref 42), some (.ref 44), some (.int (nI k))] [] (mw_U (mp s f)) = if tV tp n a k = true then some (.inl (some (.int (nI k))), mw_U (mp s f)) else mj_exec X (d + 5) 204 2 [some (.ref 42), some (.ref 44), some (.int (nI (k + 1)))] [] (mw_U (mp s f)) := by
    intro k hk
    obtain ⟨v1, v2⟩ := lk k hk
    have hle : ¬ nI 6 ≤ nI k := by rw [mn_le (by omega) (by omega)]; omega
    have hin : mw_in 6 (nI k) = true := by rw [mn_in (by omega)]; exact decide_eq_true hk
    have e := c205 (X := X) (d := d) (f := f) h h22 (i := 10 + k) (by omega) (by omega)
    rw [v2] at e
    rw [b204_2 t44]
    rw [if_neg (show ¬ nI (List.length [1000110, 1000111, 1000112, 1000113, 1000114, 1000115]) ≤ nI k from hle)]
    rw [b204_8 t44 hin (by rw [mn_clamp (by omega)]; exact v1), b204_12, e, mj_bk_i, b204_15 t44]
    cases hV : tV tp n a k
    · rw [if_pos (by decide), if_neg (by decide), b204_20 t44, nI_add]
    · rw [if_neg (by decide), if_pos rfl, b204_18 t44]
  have srch := mr_srch (γ := Unit) (E := fun k _ => mj_exec X (d + 5) 204 2 [some (.ref 42), some (.ref 44), some (.int (nI k))] [] (mw_U (mp s f))) (P := fun k => tV tp n a k) (I := fun _ _ => True) (N := 6) (by
    intro k _ hk hP _
    refine ⟨(), trivial, ?_⟩
    rw [st k hk, if_neg (by rw [hP]; decide)]) (g := ()) trivial
  rw [b204, b204_0 t44]
  rcases first_or (fun k => tV tp n a k) 6 with ⟨k, hk, hP, hmin⟩ | hall
  · obtain ⟨_, -, e⟩ := srch k (by omega) hmin
    have hV := of_decide_eq_true hP
    rw [if_pos ⟨hV.1, by omega⟩, hV.2]
    refine e.trans ?_
    rw [st k hk, if_pos hP]
  · obtain ⟨_, -, e⟩ := srch 6 (Nat.le_refl _) hall
    rw [if_neg (fun z => by
      have := hall _ z.2
      exact of_decide_eq_false this ⟨z.1, rfl⟩)]
    refine e.trans ?_
    rw [b204_2 t44, if_pos (by decide), b204_26 t44]
theorem c204p (h : TR s tp n a) (h22 : s.1 42 22 = nI 0) : mj_call X (d + 5) 204 [.ref 42, .ref 43] (mw_U (mp s f)) = some (.inl (some (.int (if tV tp n a 9 = true then nI 0 else if tV tp n a 10 = true then nI 1 else -1))), mw_U (mp s f)) := by
  have t43 := mw_t_43
  have e1 := c205 (X := X) (d := d) (f := f) h h22 (i := 8) (by omega) (by omega)
  have e2 := c205 (X := X) (d := d) (f := f) h h22 (i := 9) (by omega) (by omega)
  have e1 : mj_call X (d + 4) 205 [.ref 42, .ref 1000108] (mw_U (mp s f)) = some (.inl (some (.int (nI (tV tp n a 9).toNat))), mw_U (mp s f)) := e1
  have e2 : mj_call X (d + 4) 205 [.ref 42, .ref 1000109] (mw_U (mp s f)) = some (.inl (some (.int (nI (tV tp n a 10).toNat))), mw_U (mp s f)) := e2
  have i0 : mw_in (List.length [1000108, 1000109]) (nI 0) = true := by decide
  have i1 : mw_in (List.length [1000108, 1000109]) (nI 1) = true := by decide
  rw [b204, b204_0 t43, b204_2 t43, if_neg (by decide), b204_8 t43 i0 (v := 1000108) (by rw [mn_clamp (by decide)]; rfl), b204_12, e1, mj_bk_i, b204_15 t43]
  cases h9 : tV tp n a 9
  · rw [if_pos (by decide), if_neg (by decide), b204_20 t43, nI_add, b204_2 t43, if_neg (by decide), b204_8 t43 i1 (v := 1000109) (by rw [mn_clamp (by decide)]; rfl), b204_12, e2, mj_bk_i, b204_15 t43]
    cases h10 : tV tp n a 10
    · rw [if_pos (by decide), if_neg (by decide), b204_20 t43, nI_add, b204_2 t43, if_pos (by decide), b204_26 t43]
    · rw [if_neg (by decide), if_pos rfl, b204_18 t43]
  · rw [if_neg (by decide), if_pos rfl, b204_18 t43]
end
