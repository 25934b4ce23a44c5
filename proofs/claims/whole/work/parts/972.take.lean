/-! takeOver -/
section
variable {X : mj_X} {d : Nat} {s t : mw_S} {f g : Nat → Nat}
def oE (s : mw_S) (g : Nat → Nat) : mw_S := mw_p (mw_p (mw_p (oQ (oP (mw_p (mw_p (o9 s) 42 32 (nI 0)) 42 33 (nI (g 52))) g 8) g 64) 42 34 (nI 0)) 42 35 (nI 0)) 42 48 (nI 0)
theorem sh_ok : ∀ N, N < 9 → ((nI 1) <<< ((nI N) &&& 31)) - (nI 1) = nI (2 ^ N - 1) := by decide +kernel
theorem c223 (hG : GI g) (h : tRL s g) : mj_call X (d + 1) 223 [.ref 42] (mw_U s) = some (.inl none, mw_U (oE s g)) := by
  have hN := wf_n hG.1
  obtain ⟨t1, t2, t3, t4⟩ := h
  have z : mw_zo (nI 0) = true := by decide
  have i6 : mw_in 6 (nI 0) = true := by decide
  have c0 : (nI 0).toNatClampNeg = 0 := mn_clamp (by omega)
  have e45 : (mw_p (o9 s) 42 32 (nI 0)).1 45 0 = nI (g 55) := by rw [mw_pne (by decide), o9_at]; exact t1
  obtain ⟨l2, -, e1⟩ := lp_84 (X := X) (d := d + 1) (s := mw_p (mw_p (o9 s) 42 32 (nI 0)) 42 33 (nI (g 52))) (i := 8) (l2 := none) hG (by rw [mw_pne (by decide)]; exact e45) (fun p hp => by
    obtain ⟨x1, x2, x3, x4⟩ := t2 p hp
    have p8 : p < 8 := by omega
    rw [mw_pne (by decide), mw_pne (by decide), mw_pne (by decide), mw_pne (by decide), mw_pne (by decide), mw_pne (by decide), o9_at, o9_at, o9_at]
    simp only [p8, and_true, if_true, show ¬ (47 = 45) by decide, show ¬ (47 = 46) by decide, show ¬ (48 = 45) by decide, show ¬ (48 = 46) by decide, show ¬ (48 = 47) by decide, show ¬ (49 = 45) by decide, show ¬ (49 = 46) by decide, show ¬ (49 = 47) by decide, show ¬ (49 = 48) by decide, false_and, if_false]
    exact ⟨x2, x3, x4⟩) (Nat.le_refl 8) (Or.inl rfl)
  have e2 := lp_174 (X := X) (d := d + 1) (s := oP (mw_p (mw_p (o9 s) 42 32 (nI 0)) 42 33 (nI (g 52))) g 8) (i := 64) (l2 := l2) hG (fun k hk => by
    rw [oP_o (by decide), mw_pne (by decide), mw_pne (by decide), o9_at]
    simp [hk]
    exact t3 k hk) (fun k hk h0 => by
    rw [oP_o (by decide), mw_pne (by decide), mw_pne (by decide), o9_at]
    simp [hk]
    exact t4 k hk h0) (Nat.le_refl 64)
  have x1 : mw_rw 45 = some (.int, 2 * 3) := mw_r_45
  have x2 : mw_rw 46 = some (.int, 2 * 8) := mw_r_46
  have x3 : mw_rw 47 = some (.int, 2 * 8) := mw_r_47
  have x4 : mw_rw 48 = some (.int, 2 * 8) := mw_r_48
  have x5 : mw_rw 49 = some (.int, 2 * 8) := mw_r_49
  have x6 : mw_rw 50 = some (.int, 2 * 64) := mw_r_50
  have x7 : mw_rw 51 = some (.int, 2 * 64) := mw_r_51
  have x8 : mw_rw 52 = some (.int, 2 * 700) := mw_r_52
  have x9 : mw_rw 53 = some (.int, 2 * 700) := mw_r_53
  rw [b223, b223_0, c224 x1 (by decide), mj_bk_v, b223_7, c224 x2 (by decide), mj_bk_v, b223_14, c224 x3 (by decide), mj_bk_v, b223_21, c224 x4 (by decide), mj_bk_v, b223_28, c224 x5 (by decide), mj_bk_v, b223_35, c224 x6 (by decide), mj_bk_v, b223_42, c224 x7 (by decide), mj_bk_v, b223_49, c224 x8 (by decide), mj_bk_v, b223_56, c224 x9 (by decide), mj_bk_v, b223_63, if_pos i6, c0]
  refine Eq.trans ?_ ((e1.trans ?_))
  · congr 3
    show ((nI 1) <<< (((mw_p (o9 s) 42 32 (nI 0)).1 45 0) &&& 31)) - (nI 1) = nI (g 52)
    rw [e45, sh_ok _ (by omega), hG.2.1]
  · rw [b223_84, if_pos (by decide), b223_172, e2, b223_174, if_pos (by decide), b223_230, if_pos z]
    rfl
end
