/-! town -/
section
variable {X : mj_X} {A : AS} {x : Int32} {s t : mw_S} {tp : Nat → Nat} {n a : Nat} {σ : YS} {f g : Nat → Nat}
/-- what stands when a text was read; when it was refused -/
abbrev okA (A : AS) (σ : YS) : AS := ((σ.1, A.1.2.1, 0, s0 A.1.2.2.2.1, A.1.2.2.2.2), Qof σ, none, A.2.2.2.1, 0, none)
abbrev noA (A : AS) (p : Nat) : AS := ((A.1.1, A.1.2.1, A.1.2.2.1, A.1.2.2.2.1, sti A.1.2.2.2.2 0), A.2.1, A.2.2.1, A.2.2.2.1, 0, some p)
theorem gd_ok (hW : WL n a σ) : gd (okA A σ) := ⟨⟨hW.2.2.1.1, by show σ.1 54 ≤ 999; rw [hW.2.2.1.2.2.1]; decide, ⟨Nat.zero_le _, fun k hk => absurd hk (Nat.not_lt_zero k)⟩, fun j hj => absurd hj (Nat.not_lt_zero j)⟩, rOK_of hW, fun b hb => (by cases hb), fun j hj => absurd hj (Nat.not_lt_zero j), fun p hp => (by cases hp)⟩
theorem gd_no (hA : gd A) {p : Nat} (hp : p ≤ 700) : gd (noA A p) := ⟨hA.1, hA.2.1, hA.2.2.1, fun j hj => absurd hj (Nat.not_lt_zero j), fun p' hp' => (by cases hp'; exact hp)⟩
theorem t163 (hC : CI s A) {D : Nat} (hD : 80 ≤ D) (hn : n ≤ A.2.2.2.2.1) : mj_call X D 163 [.ref 0, .int (nI n)] (mw_U s) = (mj_call X (D - 1) 89 [.ref 22, .ref 1, .int (nI n)] (mw_U (mw_p s 0 9 (nI 0)))).bind (mj_bk X D 163 39 [some (.ref 0), some (.int (nI n))] []) := by
  obtain ⟨d, rfl⟩ : ∃ d, D = d + 1 := ⟨D - 1, by omega⟩
  have h9 := hC.2.2.2.2.1.2.1
  have h7 := hC.2.2.2.2.1.1
  rw [b163, b163_0, if_neg (by rw [mn_lt0 (by omega)]; exact id), b163_4, h9, if_pos (by rw [mn_le (by omega) (by omega)]; exact hn), b163_22, Nat.add_sub_cancel]
theorem CS_ok (hC : CI s A) {t : mw_S} (hY : YC t tp n a σ) (hm : mg (mw_p s 0 9 (nI 0)) t (fun c => c = 22 ∨ c = 23 ∨ c = 24 ∨ c = 26 ∨ c = 27 ∨ c = 28)) {D : Nat} (hD : 80 ≤ D) {y : Int32} : ∃ t', mj_exec X D 163 39 [some (.ref 0), some (.int y)] [] (mw_U t) = some (.inl (some (.int (nI 0))), mw_U t') ∧ CI t' (okA A σ) ∧ cU s t' := by
  obtain ⟨d, rfl⟩ : ∃ d, D = d + 2 := ⟨D - 2, by omega⟩
  have z : mw_zo (nI 0) = true := by decide
  have hp : t.1 22 4 = -1 := hY.1.2.2.2.2
  let u := mw_p t 0 10 (-1)
  let v := mw_p (mw_p (mw_p (mr_set u 4 64 σ.1) 2 2 (nI 0)) 2 3 (nI 0)) 2 7 (nI 0)
  obtain ⟨w, e, h1, h2, h3⟩ := c127 (X := X) (d := d + 1) (s := v)
  have mu : mg t u (fun c => c = 0) := mg_p mg_refl rfl
  have mv : mg u v (fun c => c = 2 ∨ c = 4) := mg_p (mg_p (mg_p (mg_set mg_refl (by omega)) (by omega)) (by omega)) (by omega)
  have ha : ∀ c, ¬ c = 0 → ¬ c = 2 → ¬ c = 4 → ¬ c = 18 → ¬ c = 19 → ¬ (22 ≤ c ∧ c ≤ 28) → w.1 c = s.1 c := by
    intro c c0 c2 c4 c18 c19 c22
    rw [h3.2 c (by omega), mv.2 c (by omega), mu.2 c c0, hm.2 c (by omega)]
    funext b
    exact mw_pne c0
  have hY' : ∀ c, ¬ c = 0 → ¬ c = 2 → ¬ c = 4 → v.1 c = t.1 c := fun c c0 c2 c4 => by rw [mv.2 c (by omega), mu.2 c c0]
  have w0 : ∀ b, ¬ b = 10 → ¬ b = 9 → w.1 0 b = s.1 0 b := fun b b1 b2 => by
    rw [h3.2 0 (by decide), mv.2 0 (by decide)]
    show (mw_p t 0 10 (-1)).1 0 b = _
    rw [mw_pnj b1, hm.2 0 (by decide), mw_pnj b2]
  have w9 : w.1 0 9 = nI 0 := by
    rw [h3.2 0 (by decide), mv.2 0 (by decide)]
    show (mw_p t 0 10 (-1)).1 0 9 = _
    rw [mw_pnj (by decide), hm.2 0 (by decide), mw_peq]
  have w10 : w.1 0 10 = -1 := by
    rw [h3.2 0 (by decide), mv.2 0 (by decide)]
    exact mw_peq
  obtain ⟨i1, i2, i3, i4, i5, i6⟩ := hC
  refine ⟨mw_p w 0 11 (nI 0), ?_, ⟨⟨?_, ⟨Nat.zero_le _, ?_, 0, by decide, ?_, fun j hj => absurd hj (Nat.not_lt_zero j)⟩, ⟨?_, fun i hi => absurd hi (Nat.not_lt_zero i)⟩, fun i hi => ?_⟩, ?_, mw_peq, fun b hb => (by cases hb), ⟨Nat.zero_le _, ?_, fun j hj => absurd hj (Nat.not_lt_zero j)⟩, ?_⟩, ?_, ?_, fun c hc => ?_⟩
  · have e107 : mj_call X (d + 1) 107 [.ref 22] (mw_U t) = some (.inl (some (.int (-1))), mw_U t) := by rw [b107, b107_0, hp]
    have e109 : mj_call X (d + 1) 109 [.ref 22] (mw_U u) = some (.inl (some (.ref 25)), mw_U u) := by rw [b109, b109_0]
    have e7 : mj_call X (d + 1) 7 [.ref 2, .ref 25] (mw_U u) = some (.inl none, mw_U v) := c7 (d := d) mw_c_25 (fun j hj => by rw [mu.2 26 (by decide)]; exact hY.2.1 j hj)
    have e110 : mj_call X (d + 1) 110 [.ref 22] (mw_U v) = some (.inl (some (.ref 27)), mw_U v) := by rw [b110, b110_0]
    rw [b163_39, e107, mj_bk_i, b163_47, mw_peq, if_pos rfl, b163_75]
    refine (congrArg (fun z => Option.bind z _) e109).trans ?_
    rw [mj_bk_i, b163_86 mw_c_2 mw_c_25, e7, mj_bk_v, b163_89, e110, mj_bk_i, b163_100 mw_c_18 mw_c_27, e, mj_bk_v, b163_103, if_pos z]
  · intro j hj
    rw [mw_pne (by decide), h3.2 (2 + 2) (by decide)]
    show (mw_p (mw_p (mw_p (mr_set u 4 64 σ.1) 2 2 (nI 0)) 2 3 (nI 0)) 2 7 (nI 0)).1 4 j = nI (σ.1 j)
    rw [mw_pne (by decide), mw_pne (by decide), mw_pne (by decide)]
    exact mr_get hj
  · rw [mw_pne (by decide), h3.2 2 (by decide)]
    show (mw_p (mw_p (mw_p (mr_set u 4 64 σ.1) 2 2 (nI 0)) 2 3 (nI 0)) 2 7 (nI 0)).1 2 3 = nI 0
    rw [mw_pnj (by decide), mw_peq]
  · rw [mw_pne (by decide), h3.2 2 (by decide)]
    show (mw_p (mw_p (mw_p (mr_set u 4 64 σ.1) 2 2 (nI 0)) 2 3 (nI 0)) 2 7 (nI 0)).1 2 2 = nI 0
    rw [mw_pnj (by decide), mw_pnj (by decide), mw_peq]
  · rw [mw_pne (by decide), h3.2 2 (by decide)]
    exact mw_peq
  · rw [mw_pne (by decide), ha (2 + 7) (by decide) (by decide) (by decide) (by decide) (by decide) (by decide)]
    exact i1.2.2.2 i hi
  · refine rC_of (s := t) hY (fun j hj => ?_) (fun b b1 b2 => ?_)
    · rw [mw_pne (by decide), h1 j hj, hY' 28 (by decide) (by decide) (by decide)]
    · rw [mw_pne (by decide), h2 b b1 b2, hY' 27 (by decide) (by decide) (by decide)]
  · rw [mw_pnj (by decide)]; exact w9
  · rw [mw_pnj (by decide)]; exact w10
  · show w.2.2 = s.2.2
    rw [h3.1, mv.1, mu.1, hm.1]; rfl
  · show w.2.1 79 = s.2.1 79
    rw [h3.1, mv.1, mu.1, hm.1]; rfl
  · funext b
    rw [mw_pne (by omega), ha c (by omega) (by omega) (by omega) (by omega) (by omega) (by omega)]
theorem CS_no (hC : CI s A) {t : mw_S} {k p : Nat} (h3 : t.1 22 3 = nI k) (h4 : t.1 22 4 = nI p) (hp : p ≤ 700) (hm : mg (mw_p s 0 9 (nI 0)) t (fun c => c = 22 ∨ c = 23 ∨ c = 24 ∨ c = 26 ∨ c = 27 ∨ c = 28)) {D : Nat} (hD : 80 ≤ D) {y : Int32} : ∃ t', mj_exec X D 163 39 [some (.ref 0), some (.int y)] [] (mw_U t) = some (.inl (some (.int (nI k))), mw_U t') ∧ CI t' (noA A p) ∧ cU s t' := by
  obtain ⟨d, rfl⟩ : ∃ d, D = d + 2 := ⟨D - 2, by omega⟩
  let u := mw_p t 0 10 (nI p)
  have hc : ∀ c, ¬ c = 0 → ¬ (22 ≤ c ∧ c ≤ 28) → u.1 c = s.1 c := by
    intro c c0 c22
    funext b
    show (mw_p t 0 10 (nI p)).1 c b = _
    rw [mw_pne c0, hm.2 c (by omega), mw_pne c0]
  have hc0 : ∀ b, ¬ b = 10 → ¬ b = 9 → u.1 0 b = s.1 0 b := fun b b1 b2 => by
    show (mw_p t 0 10 (nI p)).1 0 b = _
    rw [mw_pnj b1, hm.2 0 (by decide), mw_pnj b2]
  obtain ⟨i1, i2, i3, i4, i5, i6⟩ := hC
  have hB : BA u 2 A.1.1 A.1.2.1 A.1.2.2.1 A.1.2.2.2.1 A.1.2.2.2.2 := BA_e (b := A.1) i1 (fun c k1 k2 => hc c (by omega) (by omega))
  have hB' := BA_ref (i := 0) (by decide) hB
  have e9 : ∀ c, ¬ c = 9 → (mw_p u 9 0 (u.1 9 0 + nI 1)).1 c = u.1 c := fun c h => by
    funext b
    exact mw_pne h
  refine ⟨mw_p u 9 0 (u.1 9 0 + nI 1), ?_, ⟨hB', ?_, ?_, fun b hb => ?_, ⟨Nat.zero_le _, ?_, fun j hj => absurd hj (Nat.not_lt_zero j)⟩, ?_⟩, ?_, ?_, fun c hcc => ?_⟩
  · have e107 : mj_call X (d + 1) 107 [.ref 22] (mw_U t) = some (.inl (some (.int (nI p))), mw_U t) := by rw [b107, b107_0, h4]
    have e2 : mj_call X (d + 1) 2 [.ref 2, .int (nI 0)] (mw_U u) = some (.inl (some (.int (-1))), mw_U (mw_p u 9 0 (u.1 9 0 + nI 1))) := c2 (by decide)
    have e108 : mj_call X (d + 1) 108 [.ref 22] (mw_U (mw_p u 9 0 (u.1 9 0 + nI 1))) = some (.inl (some (.int (nI k))), mw_U (mw_p u 9 0 (u.1 9 0 + nI 1))) := by
      rw [b108, b108_0, e9 22 (by decide)]
      show some (Sum.inl (some (Value.int ((mw_p t 0 10 (nI p)).1 22 3))), _) = _
      rw [mw_pne (by decide), h3]
    rw [b163_39, e107, mj_bk_i, b163_47, mw_peq, if_neg (by rw [mn_eqm (by omega)]; exact id), b163_58]
    refine (congrArg (fun z => Option.bind z _) e2).trans ?_
    rw [mj_bk_i, b163_66, e108, mj_bk_i, b163_74]
  · exact rC_e i2 (by rw [e9 18 (by decide), hc 18 (by decide) (by decide)]) (by rw [e9 19 (by decide), hc 19 (by decide) (by decide)])
  · rw [e9 0 (by decide), hc0 11 (by decide) (by decide)]; exact i3
  · exact BA_e (b := b) (i4 b hb) (fun c k1 k2 => by rw [e9 c (by omega), hc c (by omega) (by omega)])
  · rw [e9 0 (by decide)]
    show (mw_p t 0 10 (nI p)).1 0 9 = nI 0
    rw [mw_pnj (by decide), hm.2 0 (by decide), mw_peq]
  · rw [e9 0 (by decide)]
    exact mw_peq
  · show t.2.2 = s.2.2
    rw [hm.1]; rfl
  · show t.2.1 79 = s.2.1 79
    rw [hm.1]; rfl
  · rw [e9 c (by omega), hc c (by omega) (by omega)]
end
