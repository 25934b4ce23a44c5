/-! town -/
section
variable {X : mj_X} {A : AS} {x : Int32}
theorem fU_T {s t u : mw_S} (h : fU s t) (h2 : fT t u) : fU s u := ⟨h2.1.trans h.1, fun c b hb => by
  rw [h2.2 c b (fun z => hb (Or.inl z)), h.2 c b hb]⟩
theorem JC_town (hA : gd A) : JC X 163 196 [.int x] k2 A := by
  cases h : ib 0 (min 700 A.2.2.2.2.1) x
  · refine Or.inr ⟨1, 1, by decide, ?_, ?_⟩
    · intro D s hD hI
      obtain ⟨d, rfl⟩ : ∃ d, D = d + 1 := ⟨D - 1, by omega⟩
      have h7 := hI.2.2.2.2.1.1
      have h9 := hI.2.2.2.2.1.2.1
      rw [Nat.min_eq_right h7] at h
      rcases ib_no (by omega) h with q | ⟨q1, q2⟩
      · rw [b163, b163_0, if_pos q, b163_12]
      · rw [b163, b163_0, if_neg q1, b163_4, h9, if_neg q2, b163_12]
    · intro D s hD hI
      obtain ⟨d, rfl⟩ : ∃ d, D = d + 1 := ⟨D - 1, by omega⟩
      obtain ⟨hm, hX⟩ := hI
      have h7 := hX.2.2.2.2.1.1
      have h9 := hX.2.2.2.2.1.2.1
      rw [Nat.min_eq_right h7] at h
      have key : mj_call X (d + 1) 196 [.ref 42, .int x] (mw_U (mp s A.1.1)) = some (.inl (some (.int (nI 0))), mw_U (mp (mw_p s 42 2 (nI 1)) A.1.1)) := by
        have h15 : (mp (mw_p s 42 2 (nI 0)) A.1.1).1 42 15 = nI A.2.2.2.2.1 := by rw [mp_42 (by decide), mw_pnj (by decide)]; exact h9
        rcases ib_no (by omega) h with q | ⟨q1, q2⟩
        · rw [b196, b196_0, if_pos q, mp_wo (by omega), b196_17, b197, b197_0, mj_bk_i, b196_22, mp_wo (by omega), mw_pp]
        · rw [b196, b196_0, if_neg q1, mp_wo (by omega), b196_9, h15, if_neg q2, b196_17, b197, b197_0, mj_bk_i, b196_22, mp_wo (by omega), mw_pp]
      rw [hm] at key
      have hg : mh s (mw_p s 42 2 (nI 1)) := mh_p2 (Or.inl rfl)
      refine ⟨_, key, MI_of (MX_mh hX hg), by rw [mp_42 (by decide)]; exact mw_peq, ?_⟩
      have := rU_mp (s := s) (t := mw_p s 42 2 (nI 1)) (f := A.1.1) (g := A.1.1) rfl (fun c hc => hg.2.1 c (by unfold gM; omega) (by omega))
      rw [hm] at this
      exact this
  · obtain ⟨n, -, hn', rfl⟩ := ib_x h
    have hn : n ≤ A.2.2.2.2.1 := by omega
    have hn7 : n ≤ 700 := by omega
    have h8 := wf_n hA.1.1
    have start : ∀ s, CI s A → ∀ j, j < n → A.2.2.2.1 j < 256 ∧ (mw_p s 0 9 (nI 0)).1 1 j = sby (A.2.2.2.1 j) := fun s hI j hj => ⟨hA.2.2.2.1 j (by omega), by rw [mw_pne (by decide)]; exact hI.2.2.2.2.1.2.2 j (by omega)⟩
    rcases J_text (X := X) (tp := A.2.2.2.1) (n := n) (n + 1) 0 σ0 (by omega) (WL_0 hn7) with ⟨a, σ, w1, w2, w3⟩ | ⟨k, p, k1, k2, k3, k4⟩
    · refine Or.inl ⟨nI 0, okA A σ, gd_ok w1, ?_, ?_⟩
      · intro D s hD hI
        obtain ⟨t, y1, y2, y3⟩ := c89 (X := X) (s := mw_p s 0 9 (nI 0)) (tp := A.2.2.2.1) hn7 (start s hI) (D := D - 1) (by omega)
        obtain ⟨t2, z1, z2, z3⟩ := w2 (D - 1) t (nI n) 0 (by omega) (Nat.zero_le _) y1
        have hm : mg (mw_p s 0 9 (nI 0)) t2 (fun c => c = 22 ∨ c = 23 ∨ c = 24 ∨ c = 26 ∨ c = 27 ∨ c = 28) := mg_trans y2 (mg_mono z3 (fun c hc => by omega))
        obtain ⟨t3, e, c1, c2⟩ := CS_ok (X := X) hI z2 hm (D := D) (by omega) (y := nI n)
        exact ⟨t3, by rw [t163 hI (by omega) hn, y3, z1, mj_bk_v]; exact e, c1, c2⟩
      · intro D s hD hI
        obtain ⟨d, rfl⟩ : ∃ d, D = d + 2 := ⟨D - 2, by omega⟩
        obtain ⟨hm, hX⟩ := hI
        obtain ⟨t, y1, y2, y3, y4, y5, y6⟩ := m196 (X := X) (f := A.1.1) hX hA.2.2.2.1 hn (D := d + 2) (by omega)
        obtain ⟨t2, c, z1, z2, z3⟩ := w3 (d + 2) t A.1.1 (nI n) (by omega) h8 y1
        obtain ⟨u, e, u1, u2, u3⟩ := RS_ok (X := X) (d := d) (y := nI n) (c := c) hX h8 (fU_T y2 z3) z2 w1 (by rw [z3.2 42 2 (by unfold tA; omega)]; exact y3) (by rw [z3.2 42 15 (by unfold tA; omega)]; exact y4) (by rw [z3.2 42 24 (by unfold tA; omega)]; exact y5)
        rw [hm] at y6
        exact ⟨u, (y6.trans z1).trans e, u1, u2, u3⟩
    · have hp : p ≤ 700 := by
        obtain ⟨t, y1, -, -⟩ := c89 (X := X) (s := ((fun _ b => sby (A.2.2.2.1 b)), (fun _ _ => 0), 0, 0)) (tp := A.2.2.2.1) hn7 (fun j hj => ⟨hA.2.2.2.1 j (by omega), rfl⟩) (D := 100) (by omega)
        obtain ⟨_, _, _, _, z4, _⟩ := k3 100 t (nI 0) 0 (by omega) (Nat.zero_le _) y1
        exact z4
      refine Or.inl ⟨nI k, noA A p, gd_no hA hp, ?_, ?_⟩
      · intro D s hD hI
        obtain ⟨t, y1, y2, y3⟩ := c89 (X := X) (s := mw_p s 0 9 (nI 0)) (tp := A.2.2.2.1) hn7 (start s hI) (D := D - 1) (by omega)
        obtain ⟨t2, z1, z2, z3, z4, z5⟩ := k3 (D - 1) t (nI n) 0 (by omega) (Nat.zero_le _) y1
        have hm : mg (mw_p s 0 9 (nI 0)) t2 (fun c => c = 22 ∨ c = 23 ∨ c = 24 ∨ c = 26 ∨ c = 27 ∨ c = 28) := mg_trans y2 (mg_mono z5 (fun c hc => by omega))
        obtain ⟨t3, e, c1, c2⟩ := CS_no (X := X) hI z2 z3 z4 hm (D := D) (by omega) (y := nI n)
        exact ⟨t3, by rw [t163 hI (by omega) hn, y3, z1, mj_bk_v]; exact e, c1, c2⟩
      · intro D s hD hI
        obtain ⟨d, rfl⟩ : ∃ d, D = d + 2 := ⟨D - 2, by omega⟩
        obtain ⟨hm, hX⟩ := hI
        obtain ⟨t, y1, y2, y3, y4, y5, y6⟩ := m196 (X := X) (f := A.1.1) hX hA.2.2.2.1 hn (D := d + 2) (by omega)
        obtain ⟨t2, c, z1, z2, z3, z4⟩ := k4 (d + 2) t A.1.1 (nI n) (by omega) h8 y1
        obtain ⟨u, e, u1, u2, u3⟩ := RS_no (X := X) (d := d + 2) (y := nI n) (c := c) hX (fU_T y2 z4) z2 z3 (by rw [z4.2 42 2 (by unfold tA; omega)]; exact y3) (by rw [z4.2 42 15 (by unfold tA; omega)]; exact y4)
        rw [hm] at y6
        exact ⟨u, (y6.trans z1).trans e, u1, u2, u3⟩
end
