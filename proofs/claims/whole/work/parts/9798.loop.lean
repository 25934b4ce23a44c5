/-! the law's loop, and the end -/
section
variable {X : mj_X} {d i : Nat} {s : mw_S} {A : AS} {l5 l6 : Option Value}
theorem and63 (x : Int32) : ∃ k, k < 64 ∧ x &&& nI 63 = nI k := by
  refine ⟨(x &&& nI 63).toBitVec.toNat, ?_, ?_⟩
  · show (x.toBitVec &&& (nI 63).toBitVec).toNat < 64
    rw [BitVec.toNat_and]
    exact Nat.lt_of_le_of_lt Nat.and_le_right (by decide)
  · apply Int32.toBitVec_inj.mp
    show (x &&& nI 63).toBitVec = BitVec.ofNat 32 ((x &&& nI 63).toBitVec.toNat)
    rw [BitVec.ofNat_toNat, BitVec.setWidth_eq]
theorem case_all (hA : gd A) (hC : CI s A) (hM : MI s A) (hi : i + 6 ≤ X.1) (hX : X.1 ≤ 3072) : ∃ t A' l5' l6', mj_exec X (d + 102) 336 33 [some (.ref 1000002), some (.ref 0), some (.ref 42), some (.ref 79), some (.int (nI i)), l5, l6] [] (mw_U s) = mj_exec X (d + 102) 336 2136 [some (.ref 1000002), some (.ref 0), some (.ref 42), some (.ref 79), some (.int (nI i)), l5', l6'] [] (mw_U t) ∧ ZZ s t A' := by
  obtain ⟨k, hk64, hk⟩ := and63 (X.2 (nI i).toNatClampNeg)
  have hin : mw_in X.1 (nI i) = true := by
    rw [mn_in (by omega)]
    exact decide_eq_true (by omega)
  rw [b336_33 mw_l_79, if_pos hin, hk]
  rcases (show k = 0 ∨ k = 1 ∨ k = 2 ∨ k = 3 ∨ k = 4 ∨ k = 5 ∨ k = 6 ∨ k = 7 ∨ k = 8 ∨ k = 9 ∨ k = 10 ∨ k = 11 ∨ k = 12 ∨ k = 13 ∨ k = 14 ∨ k = 15 ∨ k = 16 ∨ k = 17 ∨ k = 18 ∨ k = 19 ∨ k = 20 ∨ k = 21 ∨ k = 22 ∨ k = 23 ∨ k = 24 ∨ k = 25 ∨ k = 26 ∨ k = 27 ∨ k = 28 ∨ k = 29 ∨ k = 30 ∨ k = 31 ∨ k = 32 ∨ k = 33 ∨ k = 34 ∨ k = 35 ∨ k = 36 ∨ k = 37 ∨ k = 38 ∨ k = 39 ∨ k = 40 ∨ 41 ≤ k by omega) with rfl | rfl | rfl | rfl | rfl | rfl | rfl | rfl | rfl | rfl | rfl | rfl | rfl | rfl | rfl | rfl | rfl | rfl | rfl | rfl | rfl | rfl | rfl | rfl | rfl | rfl | rfl | rfl | rfl | rfl | rfl | rfl | rfl | rfl | rfl | rfl | rfl | rfl | rfl | rfl | rfl | hk
  · rw [tl_in (by decide) (t := mj_exec X (d + 102) 336 220 [some (.ref 1000002), some (.ref 0), some (.ref 42), some (.ref 79), some (.int (nI i)), l5, l6] [] (mw_U s)) rfl]
    exact L0 hA hC hM hi hX
  · rw [tl_in (by decide) (t := mj_exec X (d + 102) 336 293 [some (.ref 1000002), some (.ref 0), some (.ref 42), some (.ref 79), some (.int (nI i)), l5, l6] [] (mw_U s)) rfl]
    exact L1 hA hC hM hi hX
  · rw [tl_in (by decide) (t := mj_exec X (d + 102) 336 349 [some (.ref 1000002), some (.ref 0), some (.ref 42), some (.ref 79), some (.int (nI i)), l5, l6] [] (mw_U s)) rfl]
    exact L2 hA hC hM hi hX
  · rw [tl_in (by decide) (t := mj_exec X (d + 102) 336 362 [some (.ref 1000002), some (.ref 0), some (.ref 42), some (.ref 79), some (.int (nI i)), l5, l6] [] (mw_U s)) rfl]
    exact L3 hA hC hM hi hX
  · rw [tl_in (by decide) (t := mj_exec X (d + 102) 336 418 [some (.ref 1000002), some (.ref 0), some (.ref 42), some (.ref 79), some (.int (nI i)), l5, l6] [] (mw_U s)) rfl]
    exact L4 hA hC hM hi hX
  · rw [tl_in (by decide) (t := mj_exec X (d + 102) 336 486 [some (.ref 1000002), some (.ref 0), some (.ref 42), some (.ref 79), some (.int (nI i)), l5, l6] [] (mw_U s)) rfl]
    exact L5 hA hC hM hi hX
  · rw [tl_in (by decide) (t := mj_exec X (d + 102) 336 566 [some (.ref 1000002), some (.ref 0), some (.ref 42), some (.ref 79), some (.int (nI i)), l5, l6] [] (mw_U s)) rfl]
    exact L6 hA hC hM hi hX
  · rw [tl_in (by decide) (t := mj_exec X (d + 102) 336 591 [some (.ref 1000002), some (.ref 0), some (.ref 42), some (.ref 79), some (.int (nI i)), l5, l6] [] (mw_U s)) rfl]
    exact L7 hA hC hM hi hX
  · rw [tl_in (by decide) (t := mj_exec X (d + 102) 336 647 [some (.ref 1000002), some (.ref 0), some (.ref 42), some (.ref 79), some (.int (nI i)), l5, l6] [] (mw_U s)) rfl]
    exact L8 hA hC hM hi hX
  · rw [tl_in (by decide) (t := mj_exec X (d + 102) 336 722 [some (.ref 1000002), some (.ref 0), some (.ref 42), some (.ref 79), some (.int (nI i)), l5, l6] [] (mw_U s)) rfl]
    exact L9 hA hC hM hi hX
  · rw [tl_in (by decide) (t := mj_exec X (d + 102) 336 790 [some (.ref 1000002), some (.ref 0), some (.ref 42), some (.ref 79), some (.int (nI i)), l5, l6] [] (mw_U s)) rfl]
    exact L10 hA hC hM hi hX
  · rw [tl_in (by decide) (t := mj_exec X (d + 102) 336 882 [some (.ref 1000002), some (.ref 0), some (.ref 42), some (.ref 79), some (.int (nI i)), l5, l6] [] (mw_U s)) rfl]
    exact L11 hA hC hM hi hX
  · rw [tl_in (by decide) (t := mj_exec X (d + 102) 336 895 [some (.ref 1000002), some (.ref 0), some (.ref 42), some (.ref 79), some (.int (nI i)), l5, l6] [] (mw_U s)) rfl]
    exact L12 hA hC hM hi hX
  · rw [tl_in (by decide) (t := mj_exec X (d + 102) 336 987 [some (.ref 1000002), some (.ref 0), some (.ref 42), some (.ref 79), some (.int (nI i)), l5, l6] [] (mw_U s)) rfl]
    exact L13 hA hC hM hi hX
  · rw [tl_in (by decide) (t := mj_exec X (d + 102) 336 1055 [some (.ref 1000002), some (.ref 0), some (.ref 42), some (.ref 79), some (.int (nI i)), l5, l6] [] (mw_U s)) rfl]
    exact L14 hA hC hM hi hX
  · rw [tl_in (by decide) (t := mj_exec X (d + 102) 336 1068 [some (.ref 1000002), some (.ref 0), some (.ref 42), some (.ref 79), some (.int (nI i)), l5, l6] [] (mw_U s)) rfl]
    exact L15 hA hC hM hi hX
  · rw [tl_in (by decide) (t := mj_exec X (d + 102) 336 1136 [some (.ref 1000002), some (.ref 0), some (.ref 42), some (.ref 79), some (.int (nI i)), l5, l6] [] (mw_U s)) rfl]
    exact L16 hA hC hM hi hX
  · rw [tl_in (by decide) (t := mj_exec X (d + 102) 336 1204 [some (.ref 1000002), some (.ref 0), some (.ref 42), some (.ref 79), some (.int (nI i)), l5, l6] [] (mw_U s)) rfl]
    exact L17 hA hC hM hi hX
  · rw [tl_in (by decide) (t := mj_exec X (d + 102) 336 1217 [some (.ref 1000002), some (.ref 0), some (.ref 42), some (.ref 79), some (.int (nI i)), l5, l6] [] (mw_U s)) rfl]
    exact L18 hA hC hM hi hX
  · rw [tl_in (by decide) (t := mj_exec X (d + 102) 336 1285 [some (.ref 1000002), some (.ref 0), some (.ref 42), some (.ref 79), some (.int (nI i)), l5, l6] [] (mw_U s)) rfl]
    exact L19 hA hC hM hi hX
  · rw [tl_in (by decide) (t := mj_exec X (d + 102) 336 1298 [some (.ref 1000002), some (.ref 0), some (.ref 42), some (.ref 79), some (.int (nI i)), l5, l6] [] (mw_U s)) rfl]
    exact L20 hA hC hM hi hX
  · rw [tl_in (by decide) (t := mj_exec X (d + 102) 336 1311 [some (.ref 1000002), some (.ref 0), some (.ref 42), some (.ref 79), some (.int (nI i)), l5, l6] [] (mw_U s)) rfl]
    exact L21 hA hC hM hi hX
  · rw [tl_in (by decide) (t := mj_exec X (d + 102) 336 1367 [some (.ref 1000002), some (.ref 0), some (.ref 42), some (.ref 79), some (.int (nI i)), l5, l6] [] (mw_U s)) rfl]
    exact L22 hA hC hM hi hX
  · rw [tl_in (by decide) (t := mj_exec X (d + 102) 336 1423 [some (.ref 1000002), some (.ref 0), some (.ref 42), some (.ref 79), some (.int (nI i)), l5, l6] [] (mw_U s)) rfl]
    exact L23 hA hC hM hi hX
  · rw [tl_in (by decide) (t := mj_exec X (d + 102) 336 1479 [some (.ref 1000002), some (.ref 0), some (.ref 42), some (.ref 79), some (.int (nI i)), l5, l6] [] (mw_U s)) rfl]
    exact L24 hA hC hM hi hX
  · rw [tl_in (by decide) (t := mj_exec X (d + 102) 336 1492 [some (.ref 1000002), some (.ref 0), some (.ref 42), some (.ref 79), some (.int (nI i)), l5, l6] [] (mw_U s)) rfl]
    exact L25 hA hC hM hi hX
  · rw [tl_in (by decide) (t := mj_exec X (d + 102) 336 1505 [some (.ref 1000002), some (.ref 0), some (.ref 42), some (.ref 79), some (.int (nI i)), l5, l6] [] (mw_U s)) rfl]
    exact L26 hA hC hM hi hX
  · rw [tl_in (by decide) (t := mj_exec X (d + 102) 336 1561 [some (.ref 1000002), some (.ref 0), some (.ref 42), some (.ref 79), some (.int (nI i)), l5, l6] [] (mw_U s)) rfl]
    exact L27 hA hC hM hi hX
  · rw [tl_in (by decide) (t := mj_exec X (d + 102) 336 1574 [some (.ref 1000002), some (.ref 0), some (.ref 42), some (.ref 79), some (.int (nI i)), l5, l6] [] (mw_U s)) rfl]
    exact L28 hA hC hM hi hX
  · rw [tl_in (by decide) (t := mj_exec X (d + 102) 336 1587 [some (.ref 1000002), some (.ref 0), some (.ref 42), some (.ref 79), some (.int (nI i)), l5, l6] [] (mw_U s)) rfl]
    exact L29 hA hC hM hi hX
  · rw [tl_in (by decide) (t := mj_exec X (d + 102) 336 1655 [some (.ref 1000002), some (.ref 0), some (.ref 42), some (.ref 79), some (.int (nI i)), l5, l6] [] (mw_U s)) rfl]
    exact L30 hA hC hM hi hX
  · rw [tl_in (by decide) (t := mj_exec X (d + 102) 336 1711 [some (.ref 1000002), some (.ref 0), some (.ref 42), some (.ref 79), some (.int (nI i)), l5, l6] [] (mw_U s)) rfl]
    exact L31 hA hC hM hi hX
  · rw [tl_in (by decide) (t := mj_exec X (d + 102) 336 1724 [some (.ref 1000002), some (.ref 0), some (.ref 42), some (.ref 79), some (.int (nI i)), l5, l6] [] (mw_U s)) rfl]
    exact L32 hA hC hM hi hX
  · rw [tl_in (by decide) (t := mj_exec X (d + 102) 336 1737 [some (.ref 1000002), some (.ref 0), some (.ref 42), some (.ref 79), some (.int (nI i)), l5, l6] [] (mw_U s)) rfl]
    exact L33 hA hC hM hi hX
  · rw [tl_in (by decide) (t := mj_exec X (d + 102) 336 1829 [some (.ref 1000002), some (.ref 0), some (.ref 42), some (.ref 79), some (.int (nI i)), l5, l6] [] (mw_U s)) rfl]
    exact L34 hA hC hM hi hX
  · rw [tl_in (by decide) (t := mj_exec X (d + 102) 336 1885 [some (.ref 1000002), some (.ref 0), some (.ref 42), some (.ref 79), some (.int (nI i)), l5, l6] [] (mw_U s)) rfl]
    exact L35 hA hC hM hi hX
  · rw [tl_in (by decide) (t := mj_exec X (d + 102) 336 1941 [some (.ref 1000002), some (.ref 0), some (.ref 42), some (.ref 79), some (.int (nI i)), l5, l6] [] (mw_U s)) rfl]
    exact L36 hA hC hM hi hX
  · rw [tl_in (by decide) (t := mj_exec X (d + 102) 336 1952 [some (.ref 1000002), some (.ref 0), some (.ref 42), some (.ref 79), some (.int (nI i)), l5, l6] [] (mw_U s)) rfl]
    exact L37 hA hC hM hi hX
  · rw [tl_in (by decide) (t := mj_exec X (d + 102) 336 2032 [some (.ref 1000002), some (.ref 0), some (.ref 42), some (.ref 79), some (.int (nI i)), l5, l6] [] (mw_U s)) rfl]
    exact L38 hA hC hM hi hX
  · rw [tl_in (by decide) (t := mj_exec X (d + 102) 336 2112 [some (.ref 1000002), some (.ref 0), some (.ref 42), some (.ref 79), some (.int (nI i)), l5, l6] [] (mw_U s)) rfl]
    exact L39 hA hC hM hi hX
  · rw [tl_in (by decide) (t := mj_exec X (d + 102) 336 2123 [some (.ref 1000002), some (.ref 0), some (.ref 42), some (.ref 79), some (.int (nI i)), l5, l6] [] (mw_U s)) rfl]
    exact L40 hA hC hM hi hX
  · rw [mw_tl_gt (by rw [nI_toInt (by omega)]; show (0 : Int) + (41 : Nat) ≤ _; omega)]
    exact ⟨s, A, l5, l6, rfl, hC, hM, hA, Nat.le_succ _, by omega⟩
theorem loop_all (hX : X.1 ≤ 3072) (h6 : 6 ≤ X.1) : ∀ m i s A l5 l6, X.1 - i ≤ m → gd A → CI s A → MI s A → s.2.2.1 ≤ 80 + i → s.2.2.2 ≤ 35973 + i → i ≤ X.1 + 6 → ∃ t, mj_exec X (d + 102) 336 23 [some (.ref 1000002), some (.ref 0), some (.ref 42), some (.ref 79), some (.int (nI i)), l5, l6] [] (mw_U s) = some (.inl (some (.int (nI 1))), mw_U t) ∧ t.2.2.1 ≤ 4000 ∧ t.2.2.2 ≤ 40000 := by
  intro m
  induction m with
  | zero =>
    intro i s A l5 l6 hm hA hC hM c1 c2 hi
    refine ⟨s, ?_, by omega, by omega⟩
    rw [b336_23 mw_l_79, mn_sub (by omega), if_pos (by rw [mn_lt (by omega) (by omega)]; omega), b336_2142 mw_l_79]
  | succ m ih =>
    intro i s A l5 l6 hm hA hC hM c1 c2 hi
    by_cases q : X.1 - 6 < i
    · refine ⟨s, ?_, by omega, by omega⟩
      rw [b336_23 mw_l_79, mn_sub (by omega), if_pos (by rw [mn_lt (by omega) (by omega)]; exact q), b336_2142 mw_l_79]
    · obtain ⟨t, A', l5', l6', e, z1, z2, z3, z4, z5⟩ := case_all (X := X) (d := d) (i := i) (l5 := l5) (l6 := l6) hA hC hM (by omega) hX
      obtain ⟨u, e2, u1, u2⟩ := ih (i + 6) t A' l5' l6' (by omega) z3 z1 z2 (by omega) (by omega) (by omega)
      refine ⟨u, ?_, u1, u2⟩
      rw [b336_23 mw_l_79, mn_sub (by omega), if_neg (by rw [mn_lt (by omega) (by omega)]; exact q), e, b336_2136 mw_l_79, nI_add]
      exact e2
end
