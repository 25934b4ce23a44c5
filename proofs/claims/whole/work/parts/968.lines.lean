/-! every line ahead of its ; : both at once -/
section
variable {X : mj_X} {d : Nat} {s t t1 t2 t3 : mw_S} {f g : Nat → Nat} {tp : Nat → Nat} {n a : Nat} {σ : YS}
theorem dn_2 {σ' : YS} (h : σ'.2 = σ.2) : dn σ' = dn σ := by unfold dn; rw [h]
theorem JB_person (b : Bool) (hV : tV tp n a (if b then 10 else 9) = true) (hW : WL n a σ) : JB X tp n a σ := by
  have ht := (tV_1 hV).1
  rcases J_person (X := X) b ht hW with ⟨a', σ', x1, x2, x3, x4, x5⟩ | ⟨k, p, k1, k2, k3, k4, k5⟩
  · refine Or.inl ⟨a', σ', x1, x2, ?_, ?_⟩
    · intro D s hD h
      obtain ⟨d, rfl⟩ : ∃ d, D = d + 4 := ⟨D - 4, by omega⟩
      obtain ⟨t, e, h1, f1⟩ := x4 (d + 3) s (by omega) h
      exact ⟨t, l90p b (by decide) h hV e, h1, f1⟩
    · intro D s f hD hf h
      obtain ⟨d, rfl⟩ : ∃ d, D = d + 5 := ⟨D - 5, by omega⟩
      obtain ⟨t, e, h1, f1⟩ := x5 (d + 5) s f (by omega) hf h
      refine ⟨t, h1, f1, fun t' e2 => ?_⟩
      rw [dn_2 x3]
      exact m203p b h dn_lt hV e e2
  · refine Or.inr ⟨k, p, k1, k2, ?_, ?_⟩
    · intro D s hD h
      obtain ⟨d, rfl⟩ : ∃ d, D = d + 4 := ⟨D - 4, by omega⟩
      obtain ⟨t, e, h1, h2, f1⟩ := k4 (d + 3) s (by omega) h
      exact ⟨t, l90p b (by decide) h hV e, h1, h2, by have := hW.2.1; omega, f1⟩
    · intro D s f hD hf h
      obtain ⟨d, rfl⟩ : ∃ d, D = d + 5 := ⟨D - 5, by omega⟩
      obtain ⟨t, e, h1, h2, f1⟩ := k5 (d + 5) s f (by omega) hf h
      exact ⟨t, _, h1, h2, f1, fun t' e2 => m203p b h dn_lt hV e e2⟩
theorem JB_wed (hV : tV tp n a 11 = true) (hW : WL n a σ) : JB X tp n a σ := by
  have ht := (tV_1 hV).1
  rcases J_wed (X := X) ht hW with ⟨a', σ', x1, x2, x3, x4, x5⟩ | ⟨k, p, k1, k2, k3, k4, k5⟩
  · refine Or.inl ⟨a', σ', x1, x2, ?_, ?_⟩
    · intro D s hD h
      obtain ⟨d, rfl⟩ : ∃ d, D = d + 4 := ⟨D - 4, by omega⟩
      obtain ⟨t, e, h1, f1⟩ := x4 (d + 3) s (by omega) h
      exact ⟨t, l90w (by decide) h hV e, h1, f1⟩
    · intro D s f hD hf h
      obtain ⟨d, rfl⟩ : ∃ d, D = d + 5 := ⟨D - 5, by omega⟩
      obtain ⟨t, e, h1, f1⟩ := x5 (d + 5) s f (by omega) hf h
      refine ⟨t, h1, f1, fun t' e2 => ?_⟩
      rw [dn_2 x3]
      exact m203w h dn_lt hV e e2
  · refine Or.inr ⟨k, p, k1, k2, ?_, ?_⟩
    · intro D s hD h
      obtain ⟨d, rfl⟩ : ∃ d, D = d + 4 := ⟨D - 4, by omega⟩
      obtain ⟨t, e, h1, h2, f1⟩ := k4 (d + 3) s (by omega) h
      exact ⟨t, l90w (by decide) h hV e, h1, h2, by have := hW.2.1; omega, f1⟩
    · intro D s f hD hf h
      obtain ⟨d, rfl⟩ : ∃ d, D = d + 5 := ⟨D - 5, by omega⟩
      obtain ⟨t, e, h1, h2, f1⟩ := k5 (d + 5) s f (by omega) hf h
      exact ⟨t, _, h1, h2, f1, fun t' e2 => m203w h dn_lt hV e e2⟩
theorem JB_quarrel (hV : tV tp n a 12 = true) (hW : WL n a σ) : JB X tp n a σ := by
  have ht := (tV_1 hV).1
  rcases J_quarrel (X := X) ht hW with ⟨a', σ', x1, x2, x3, x4, x5⟩ | ⟨k, p, k1, k2, k3, k4, k5⟩
  · refine Or.inl ⟨a', σ', x1, x2, ?_, ?_⟩
    · intro D s hD h
      obtain ⟨d, rfl⟩ : ∃ d, D = d + 4 := ⟨D - 4, by omega⟩
      obtain ⟨t, e, h1, f1⟩ := x4 (d + 3) s (by omega) h
      exact ⟨t, l90q (by decide) h hV e, h1, f1⟩
    · intro D s f hD hf h
      obtain ⟨d, rfl⟩ : ∃ d, D = d + 5 := ⟨D - 5, by omega⟩
      obtain ⟨t, e, h1, f1⟩ := x5 (d + 5) s f (by omega) hf h
      refine ⟨t, h1, f1, fun t' e2 => ?_⟩
      rw [dn_2 x3]
      exact m203q h dn_lt hV e e2
  · refine Or.inr ⟨k, p, k1, k2, ?_, ?_⟩
    · intro D s hD h
      obtain ⟨d, rfl⟩ : ∃ d, D = d + 4 := ⟨D - 4, by omega⟩
      obtain ⟨t, e, h1, h2, f1⟩ := k4 (d + 3) s (by omega) h
      exact ⟨t, l90q (by decide) h hV e, h1, h2, by have := hW.2.1; omega, f1⟩
    · intro D s f hD hf h
      obtain ⟨d, rfl⟩ : ∃ d, D = d + 5 := ⟨D - 5, by omega⟩
      obtain ⟨t, e, h1, h2, f1⟩ := k5 (d + 5) s f (by omega) hf h
      exact ⟨t, _, h1, h2, f1, fun t' e2 => m203q h dn_lt hV e e2⟩
theorem JB_none (hV : ∀ w, 9 ≤ w → w < 15 → tV tp n a w = false) (hW : WL n a σ) : JB X tp n a σ := by
  refine Or.inr ⟨1, tb tp n a, by decide, by decide, ?_, ?_⟩
  · intro D s hD h
    obtain ⟨d, rfl⟩ : ∃ d, D = d + 4 := ⟨D - 4, by omega⟩
    exact ⟨_, l90n h hV, l22.1, l22.2, Nat.le_trans (tb_le hW.1) hW.2.1, fL_22⟩
  · intro D s f hD hf h
    obtain ⟨d, rfl⟩ : ∃ d, D = d + 5 := ⟨D - 5, by omega⟩
    exact ⟨_, _, m42.1, m42.2, fT_22 fT_refl, fun t' e2 => m203n h dn_lt hV e2⟩
theorem LQ_of (o : Bool) (h : YC s tp n a σ) : LQ s σ.2.1 (sR σ o) (iR o) := by
  cases o
  · exact h.2.2.1
  · exact h.2.2.2
theorem JB_rule (o : Bool) (hV : tV tp n a (if o then 14 else 13) = true) (hW : WL n a σ) : JB X tp n a σ := by
  have ht := (tV_1 hV).1
  have hW0 := hW
  obtain ⟨han, hn, hG, w1, w2, w3, w4, w5⟩ := hW
  have a1 := te_lt ht
  have l1 := te_le (tp := tp) (n := n) (a := a) han
  by_cases h0 : (sR σ o).length = 0
  · have hb : kR o &&& dn σ = 0 := (dn_0 o).mpr h0
    rcases J_ex (X := X) (tp := tp) hn o (te tp n a) σ.2.1 [] l1 (by omega) (Nat.zero_le _) with ⟨a', l', x1, x2, x3, x4, x5, x6⟩ | ⟨k, p, k1, k2, k3, k4⟩
    · have hh := x4 0 (by decide)
      have hl0 : 0 < l'.length := by
        cases l' with
        | nil => cases hh
        | cons c l => exact Nat.succ_pos _
      refine Or.inl ⟨a', sP σ o l', by omega, WL_rule o hW0 (by omega) x2 (by omega) (by omega) hh, ?_, ?_⟩
      · intro D s hD h
        obtain ⟨d, rfl⟩ : ∃ d, D = d + 55 := ⟨D - 55, by omega⟩
        obtain ⟨t1, e1, h1, f1⟩ := l131 (X := X) (D := d + 53) (by omega) h
        have hG1 : GC (mw_p t1 27 (iR o) (t1.1 27 1)) tp n (te tp n a) σ.2.1 := GC_27 h1.1 (by cases o <;> decide)
        obtain ⟨t2, e2, h2, f2⟩ := x5 (d + 2) _ hG1
        have q := (LQ_of o h).1 h0
        have e3 : mj_call X (d + 54) (zR o) [.ref 22] (mw_U s) = _ := l97 o (x := 1) (by decide) q e1 e2
        refine ⟨_, l90r (d := d + 51) o (by decide) h hV e3, YC_rule o h1 h2 f2 hl0, fL_trans f1 (fL_trans (mg_p mg_refl (by omega)) (fL_trans (fL_C f2) (mg_p mg_refl (by omega))))⟩
      · intro D s f hD hf h
        obtain ⟨d, rfl⟩ : ∃ d, D = d + 51 := ⟨D - 51, by omega⟩
        obtain ⟨t1, e1, h1, f1⟩ := m198 (X := X) (D := d + 51) (f := f) (by omega) h
        obtain ⟨t2, e2, h2, f2⟩ := x6 d _ f (GR_of o h1 h0)
        refine ⟨t2, YR_rule o h1 h2 f2, fT_E (fT_p (fT_R fT_refl f1) (by unfold tA; omega)) f2, fun t' e3 => ?_⟩
        rw [dn_r o h0 hl0]
        exact m203r (d := d + 46) o h dn_lt hb hV e1 e2 e3
    · refine Or.inr ⟨k, p, k1, k2, ?_, ?_⟩
      · intro D s hD h
        obtain ⟨d, rfl⟩ : ∃ d, D = d + 55 := ⟨D - 55, by omega⟩
        obtain ⟨t1, e1, h1, f1⟩ := l131 (X := X) (D := d + 53) (by omega) h
        have hG1 : GC (mw_p t1 27 (iR o) (t1.1 27 1)) tp n (te tp n a) σ.2.1 := GC_27 h1.1 (by cases o <;> decide)
        obtain ⟨t2, e2, h2, h3, f2⟩ := k3 (d + 2) _ hG1
        have q := (LQ_of o h).1 h0
        have e3 : mj_call X (d + 54) (zR o) [.ref 22] (mw_U s) = _ := l97 o (x := 0) (by decide) q e1 e2
        refine ⟨_, l90r (d := d + 51) o (by decide) h hV e3, ?_, ?_, h3.2.2, fL_trans f1 (fL_trans (mg_p mg_refl (by omega)) (fL_trans (fL_C f2) (mg_p mg_refl (by omega))))⟩
        · rw [mw_pne (by decide)]; exact h2
        · rw [mw_pne (by decide)]; exact h3.1
      · intro D s f hD hf h
        obtain ⟨d, rfl⟩ : ∃ d, D = d + 51 := ⟨D - 51, by omega⟩
        obtain ⟨t1, e1, h1, f1⟩ := m198 (X := X) (D := d + 51) (f := f) (by omega) h
        obtain ⟨t2, e2, h2, h3, f2⟩ := k4 d _ f (GR_of o h1 h0)
        exact ⟨t2, _, h2, h3, fT_E (fT_p (fT_R fT_refl f1) (by unfold tA; omega)) f2, fun t' e3 => m203r (d := d + 46) o h dn_lt hb hV e1 e2 e3⟩
  · have hb : ¬ kR o &&& dn σ = 0 := fun z => h0 ((dn_0 o).mp z)
    refine Or.inr ⟨5, tb tp n a, by decide, by decide, ?_, ?_⟩
    · intro D s hD h
      obtain ⟨d, rfl⟩ : ∃ d, D = d + 4 := ⟨D - 4, by omega⟩
      obtain ⟨b, b1, b2, b3, b4⟩ := (LQ_of o h).2 (by omega)
      exact ⟨_, l90r o (by decide) h hV (l97f (d := d + 1) o (b := b) (by have := h.1.2.2.1; omega) h b2), l22.1, l22.2, Nat.le_trans (tb_le han) hn, fL_22⟩
    · intro D s f hD hf h
      obtain ⟨d, rfl⟩ : ∃ d, D = d + 5 := ⟨D - 5, by omega⟩
      exact ⟨_, _, m42.1, m42.2, fT_22 fT_refl, fun t' e2 => m203t o h dn_lt hb hV e2⟩
theorem JB_all (hW : WL n a σ) : JB X tp n a σ := by
  by_cases h9 : tV tp n a 9 = true
  · exact JB_person false h9 hW
  by_cases h10 : tV tp n a 10 = true
  · exact JB_person true h10 hW
  by_cases h11 : tV tp n a 11 = true
  · exact JB_wed h11 hW
  by_cases h12 : tV tp n a 12 = true
  · exact JB_quarrel h12 hW
  by_cases h13 : tV tp n a 13 = true
  · exact JB_rule false h13 hW
  by_cases h14 : tV tp n a 14 = true
  · exact JB_rule true h14 hW
  refine JB_none (fun w w1 w2 => ?_) hW
  rcases (show w = 9 ∨ w = 10 ∨ w = 11 ∨ w = 12 ∨ w = 13 ∨ w = 14 by omega) with rfl | rfl | rfl | rfl | rfl | rfl
  · exact Bool.eq_false_iff.mpr h9
  · exact Bool.eq_false_iff.mpr h10
  · exact Bool.eq_false_iff.mpr h11
  · exact Bool.eq_false_iff.mpr h12
  · exact Bool.eq_false_iff.mpr h13
  · exact Bool.eq_false_iff.mpr h14
end
