/-! the class reads a town -/
def σ0 : YS := ((fun _ => 0), [], [], [])
def Qof (σ : YS) : rQ := ((fun j => σ.2.2.1.getD j 0), σ.2.2.1.length, (fun j => σ.2.2.2.getD j 0), σ.2.2.2.length)
section
variable {X : mj_X} {d : Nat} {s t : mw_S} {tp : Nat → Nat} {n a : Nat} {σ : YS}
theorem WL_0 (hn : n ≤ 700) : WL n 0 σ0 := ⟨Nat.zero_le _, hn, GI_0, Nat.le_refl _, Nat.le_refl _, Nat.le_refl _, fun h => absurd h (Nat.lt_irrefl 0), fun h => absurd h (Nat.lt_irrefl 0)⟩
theorem c121 : mj_call X d 121 [.ref 27] (mw_U s) = some (.inl none, mw_U (mw_p (mw_p (mw_p (mw_p (mw_p s 27 1 (nI 0)) 27 2 (-1)) 27 3 (-1)) 27 4 (-1)) 27 5 (-1))) := by
  rw [b121, b121_0 mw_c_27]
theorem c89 (hn : n ≤ 700) (ht : ∀ j, j < n → tp j < 256 ∧ s.1 1 j = sby (tp j)) {D : Nat} (hD : 8 ≤ D) : ∃ t, YC t tp n 0 σ0 ∧ mg s t (fun c => c = 22 ∨ c = 23 ∨ c = 24 ∨ c = 26 ∨ c = 27 ∨ c = 28) ∧ mj_call X D 89 [.ref 22, .ref 1, .int (nI n)] (mw_U s) = mj_exec X D 89 35 [some (.ref 22), some (.ref 1), some (.int (nI n)), some (.int (nI 0))] [] (mw_U t) := by
  obtain ⟨d, rfl⟩ : ∃ d, D = d + 8 := ⟨D - 8, by omega⟩
  have r1 := mw_r_1
  let s2 := mr_set s 26 64 (fun _ => 0)
  let s3 := mw_p (mw_p (mw_p (mw_p (mw_p s2 27 1 (nI 0)) 27 2 (-1)) 27 3 (-1)) 27 4 (-1)) 27 5 (-1)
  let s4 := mw_p (mw_p s3 22 3 (nI 0)) 22 4 (-1)
  have m4 : mg s s4 (fun c => c = 22 ∨ c = 23 ∨ c = 24 ∨ c = 26 ∨ c = 27 ∨ c = 28) := mg_p (mg_p (mg_p (mg_p (mg_p (mg_p (mg_p (mg_set mg_refl (by omega)) (by omega)) (by omega)) (by omega)) (by omega)) (by omega)) (by omega)) (by omega)
  obtain ⟨t, e, h1, h2⟩ := c130 (X := X) (D := d + 7) (s := s4) (tp := tp) (by omega) hn (fun j hj => ⟨(ht j hj).1, by rw [m4.2 1 (by decide)]; exact (ht j hj).2⟩)
  have k27 := h2.2 27 (by decide)
  have k28 := h2.2 28 (by decide)
  have k22 := h2.2 22 (by decide)
  have k26 := h2.2 26 (by decide)
  have y27 : ∀ i, (i = 2 ∨ i = 4) → t.1 27 i = -1 := by
    intro i hi
    rw [k27]
    show (mw_p (mw_p s3 22 3 (nI 0)) 22 4 (-1)).1 27 i = -1
    rw [mw_pne (by decide), mw_pne (by decide)]
    rcases hi with rfl | rfl
    · show (mw_p (mw_p (mw_p (mw_p (mw_p s2 27 1 (nI 0)) 27 2 (-1)) 27 3 (-1)) 27 4 (-1)) 27 5 (-1)).1 27 2 = -1
      rw [mw_pnj (by decide), mw_pnj (by decide), mw_pnj (by decide), mw_peq]
    · show (mw_p (mw_p (mw_p (mw_p (mw_p s2 27 1 (nI 0)) 27 2 (-1)) 27 3 (-1)) 27 4 (-1)) 27 5 (-1)).1 27 4 = -1
      rw [mw_pnj (by decide), mw_peq]
  refine ⟨t, ⟨⟨h1, ?_, Nat.zero_le _, fun j hj => absurd hj (Nat.not_lt_zero j), ?_⟩, ?_, ⟨fun _ => y27 2 (Or.inl rfl), fun z => absurd z (Nat.lt_irrefl 0)⟩, ⟨fun _ => y27 4 (Or.inr rfl), fun z => absurd z (Nat.lt_irrefl 0)⟩⟩, mg_trans m4 (mg_mono h2 (fun c hc => by omega)), ?_⟩
  · rw [k27]
    show (mw_p (mw_p (mw_p (mw_p (mw_p (mw_p (mw_p s2 27 1 (nI 0)) 27 2 (-1)) 27 3 (-1)) 27 4 (-1)) 27 5 (-1)) 22 3 (nI 0)) 22 4 (-1)).1 27 1 = nI 0
    rw [mw_pne (by decide), mw_pne (by decide), mw_pnj (by decide), mw_pnj (by decide), mw_pnj (by decide), mw_pnj (by decide), mw_peq]
  · rw [k22]
    exact mw_peq
  · intro j hj
    rw [k26]
    show (mw_p (mw_p (mw_p (mw_p (mw_p (mw_p (mw_p s2 27 1 (nI 0)) 27 2 (-1)) 27 3 (-1)) 27 4 (-1)) 27 5 (-1)) 22 3 (nI 0)) 22 4 (-1)).1 26 j = nI 0
    rw [mw_pne (by decide), mw_pne (by decide), mw_pne (by decide), mw_pne (by decide), mw_pne (by decide), mw_pne (by decide), mw_pne (by decide)]
    exact mr_get hj
  · rw [b89, b89_0 r1, c60 mw_c_25, mj_bk_v, b89_7 r1, c121, mj_bk_v, b89_14 r1]
    exact (congrArg (fun z => Option.bind z _) e).trans (by rw [mj_bk_v, b89_33 r1])
theorem c127 : ∃ t, mj_call X d 127 [.ref 18, .ref 27] (mw_U s) = some (.inl none, mw_U t) ∧ (∀ j, j < 700 → t.1 19 j = s.1 28 j) ∧ (∀ b, 2 ≤ b → b ≤ 5 → t.1 18 b = s.1 27 b) ∧ mg s t (fun c => c = 18 ∨ c = 19) := by
  have hc : mw_cp 700 700 (nI 0) (nI 0) (nI 700) = true := by decide
  have c0 : (nI 0).toNatClampNeg = 0 := mn_clamp (by omega)
  have c7 : (nI 700).toNatClampNeg = 700 := mn_clamp (by omega)
  have cc : ∀ a b, ¬ a = 19 → (mw_c s 28 19 0 0 700).1 a b = s.1 a b := fun a b h => if_neg (fun z => h z.1)
  refine ⟨_, by rw [b127, b127_0 mw_c_18 mw_c_27, if_pos hc], ?_, ?_, ?_⟩
  · intro j hj
    rw [mw_pne (by decide), mw_pne (by decide), mw_pne (by decide), mw_pne (by decide), mw_pne (by decide), c0, c7]
    show (if 19 = 19 ∧ (0 ≤ j ∧ j < 0 + 700) then s.1 28 (0 + (j - 0)) else s.1 19 j) = _
    rw [if_pos ⟨rfl, by omega, by omega⟩, Nat.sub_zero, Nat.zero_add]
  · intro b h1 h2
    rw [c0, c7]
    rcases (show b = 2 ∨ b = 3 ∨ b = 4 ∨ b = 5 by omega) with rfl | rfl | rfl | rfl
    · rw [mw_pnj (by decide), mw_pnj (by decide), mw_pnj (by decide), mw_peq, mw_pne (by decide), cc _ _ (by decide)]
    · rw [mw_pnj (by decide), mw_pnj (by decide), mw_peq, mw_pne (by decide), mw_pne (by decide), cc _ _ (by decide)]
    · rw [mw_pnj (by decide), mw_peq, mw_pne (by decide), mw_pne (by decide), mw_pne (by decide), cc _ _ (by decide)]
    · rw [mw_peq, mw_pne (by decide), mw_pne (by decide), mw_pne (by decide), mw_pne (by decide), cc _ _ (by decide)]
  · have m0 : mg s (mw_c s 28 19 0 0 700) (fun c => c = 18 ∨ c = 19) := ⟨rfl, fun c hc => by
      funext b
      exact cc c b (by omega)⟩
    rw [c0, c7]
    exact mg_p (mg_p (mg_p (mg_p (mg_p m0 (by omega)) (by omega)) (by omega)) (by omega)) (by omega)
theorem rC_of (h : YC s tp n a σ) (h1 : ∀ j, j < 700 → t.1 19 j = s.1 28 j) (h2 : ∀ b, 2 ≤ b → b ≤ 5 → t.1 18 b = s.1 27 b) : rC t 18 (Qof σ) := by
  obtain ⟨⟨g1, g2, g3, g4, g5⟩, y2, ⟨x1, x2⟩, ⟨z1, z2⟩⟩ := h
  refine ⟨fun h0 => by rw [h2 2 (by omega) (by omega)]; exact x1 h0, fun h0 => ?_, fun h0 => by rw [h2 4 (by omega) (by omega)]; exact z1 h0, fun h0 => ?_⟩
  · obtain ⟨b, b1, b2, b3, b4⟩ := x2 h0
    refine ⟨b, by show b + σ.2.2.1.length ≤ 700; omega, by rw [h2 2 (by omega) (by omega)]; exact b2, by rw [h2 3 (by omega) (by omega)]; exact b3, fun j hj => ?_⟩
    have hj : j < σ.2.2.1.length := hj
    rw [h1 (b + j) (by omega), g4 (b + j) (by omega), b4 j hj]
    rfl
  · obtain ⟨b, b1, b2, b3, b4⟩ := z2 h0
    refine ⟨b, by show b + σ.2.2.2.length ≤ 700; omega, by rw [h2 4 (by omega) (by omega)]; exact b2, by rw [h2 5 (by omega) (by omega)]; exact b3, fun j hj => ?_⟩
    have hj : j < σ.2.2.2.length := hj
    rw [h1 (b + j) (by omega), g4 (b + j) (by omega), b4 j hj]
    rfl
theorem rOK_of (h : WL n a σ) : rOK (Qof σ) := ⟨fun h0 => rh_all (h.2.2.2.2.2.2.1 h0), fun h0 => rh_all (h.2.2.2.2.2.2.2 h0)⟩
end
