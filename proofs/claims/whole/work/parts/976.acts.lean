/-! acts: class and reference answer alike, and go on alike -/
section
variable {X : mj_X} {A : AS} {x y w n : Int32} {f g : Nat → Nat}
theorem sst_refl : sst f f := ⟨fun _ _ => rfl, rfl, rfl, rfl⟩
theorem sst_symm (h : sst f g) : sst g f := ⟨fun j hj => (h.1 j hj).symm, h.2.1.symm, h.2.2.1.symm, h.2.2.2.symm⟩
theorem gd_act (hA : gd A) {f' : Nat → Nat} (hw : wf f' (f' 52)) (h54 : f' 54 ≤ 999) (hs : sst A.1.1 f') : gd ((f', pP A.1.2.1 A.1.2.2.1 A.1.1, pA A.1.2.2.1, A.1.2.2.2.1, A.1.2.2.2.2), A.2) := by
  obtain ⟨⟨a1, a2, a3, a4⟩, b1, b2, b3, b4⟩ := hA
  refine ⟨⟨hw, h54, a3, ?_⟩, b1, fun b hb => ⟨(b2 b hb).1, sst_trans (b2 b hb).2 hs⟩, b3, b4⟩
  intro j hj
  show wf (pP A.1.2.1 A.1.2.2.1 A.1.1 j) _ ∧ pP A.1.2.1 A.1.2.2.1 A.1.1 j 54 ≤ 999 ∧ sst (pP A.1.2.1 A.1.2.2.1 A.1.1 j) f'
  have hj : j < pA A.1.2.2.1 := hj
  unfold pA at hj
  unfold pP
  by_cases q : A.1.2.2.1 < 40
  · rw [if_pos q] at hj
    simp only [if_pos q]
    by_cases q2 : j = A.1.2.2.1
    · simp only [if_pos q2]; exact ⟨a1, a2, hs⟩
    · simp only [if_neg q2]
      obtain ⟨c1, c2, c3⟩ := a4 j (by omega)
      exact ⟨c1, c2, sst_trans c3 hs⟩
  · rw [if_neg q] at hj
    simp only [if_neg q]
    by_cases q2 : j = 39
    · simp only [if_pos q2]; exact ⟨a1, a2, hs⟩
    · simp only [if_neg q2]
      obtain ⟨c1, c2, c3⟩ := a4 (j + 1) (by omega)
      exact ⟨c1, c2, sst_trans c3 hs⟩
abbrev stA (A : AS) (i : Nat) : AS := ((A.1.1, A.1.2.1, A.1.2.2.1, A.1.2.2.2.1, sti A.1.2.2.2.2 i), A.2)
abbrev sgA (A : AS) (σ : sS) : AS := ((A.1.1, A.1.2.1, A.1.2.2.1, σ, A.1.2.2.2.2), A.2)
theorem gd_st (hA : gd A) {i : Nat} : gd (stA A i) := hA
theorem gd_sg (hA : gd A) {σ : sS} (h : sOK σ) : gd (sgA A σ) := ⟨⟨hA.1.1, hA.1.2.1, h, hA.1.2.2.2⟩, hA.2⟩
theorem JC_weeks (hA : gd A) : JC X 145 248 [.int x] k0 A := by
  have hw := hA.1.1
  cases h : ib 1 20 x
  · exact Or.inl ⟨_, stA A 1, gd_st hA, CSv_b (b := (stA A 1).1) (fun d s hI => x145 hw hA.1.2.1 hI.1 (Or.inl h)), RSv_b (b := (stA A 1).1) (fun d s hX => n248 hw hA.1.2.1 hX.1 (Or.inl h))⟩
  · obtain ⟨n, h1, h20, rfl⟩ := ib_x h
    by_cases q : A.1.1 54 + n ≤ 999
    · refine Or.inl ⟨_, _, gd_act hA ?_ ?_ sst_wks, CSv_b (fun d s hI => q145 hw hI.1 hI.2.1 hA.2.1 h1 h20 q), RSv_b (fun d s hX => m248 hw hX.1 hX.2.1 hA.2.1 h1 h20 q)⟩
      · rw [fwks_o (by omega)]; exact wf_wks hw n (by omega)
      · rw [fwks_54]; exact q
    · have q' : 999 < A.1.1 54 + n := by omega
      exact Or.inl ⟨_, stA A 1, gd_st hA, CSv_b (b := (stA A 1).1) (fun d s hI => x145 hw hA.1.2.1 hI.1 (Or.inr ⟨n, rfl, h1, h20, q'⟩)), RSv_b (b := (stA A 1).1) (fun d s hX => n248 hw hA.1.2.1 hX.1 (Or.inr ⟨n, rfl, h1, h20, q'⟩))⟩
theorem JC_die (hA : gd A) : JC X 170 256 [.int x] k1 A := by
  have hw := hA.1.1
  have h8 := wf_n hw
  cases h : ip (A.1.1 55) x
  · exact Or.inr ⟨0, 1, by decide, CSx_ (fun d s hI => x170 hw hI.1.1 h), RSx_ (fun d s hX => f256 h8 h)⟩
  · obtain ⟨p, hp, rfl⟩ := ip_x h
    cases hl : (A.1.1 52).testBit p
    · exact Or.inl ⟨_, stA A 1, gd_st hA, CSv_b (b := (stA A 1).1) (fun d s hI => n170 hw hI.1 hp hl), RSv_b (b := (stA A 1).1) (fun d s hX => n256 hw hX.1 hp hl)⟩
    · have hb := wf_bur hw (show p < 8 by omega)
      refine Or.inl ⟨_, _, gd_act hA hb.1 ?_ (sst_bur hw (by omega)), CSv_b (fun d s hI => q170 hw hI.1 hp hl), RSv_b (fun d s hX => m256 hw hX.1 hp hl)⟩
      rw [hb.2.2 54 (by omega)]; exact hA.1.2.1
theorem JC_wed (hA : gd A) : JC X 171 259 [.int x, .int y] k1 A := by
  have hw := hA.1.1
  have h8 := wf_n hw
  cases h : ip (A.1.1 55) x && ip (A.1.1 55) y
  · exact Or.inr ⟨0, 1, by decide, CSx_ (fun d s hI => x171 hw hI.1.1 h), RSx_ (fun d s hX => f259 h8 h)⟩
  · obtain ⟨hx, hy⟩ := Bool.and_eq_true_iff.mp h
    obtain ⟨p, hp, rfl⟩ := ip_x hx
    obtain ⟨q, hq, rfl⟩ := ip_x hy
    cases hl : fcm A.1.1 p q
    · exact Or.inl ⟨_, stA A 1, gd_st hA, CSv_b (b := (stA A 1).1) (fun d s hI => n171 hw hI.1 hp hq hl), RSv_b (b := (stA A 1).1) (fun d s hX => n259 hw hX.1 hp hq hl)⟩
    · obtain ⟨m1, m2⟩ := wf_mar hw (show p < 8 by omega) (show q < 8 by omega) hl
      have o : ∀ j, j < 16 ∨ (52 ≤ j ∧ j < 56) → fe (fj A.1.1 p q) (fp p q) j = A.1.1 j := fun j hj => mar_o (by omega) (by omega) m2 hj
      refine Or.inl ⟨_, _, gd_act hA ?_ ?_ ⟨fun j hj => (o j (by omega)).symm, (o 53 (by omega)).symm, (o 55 (by omega)).symm, (mar_64 (by omega) (by omega) m2).symm⟩, CSv_b (fun d s hI => q171 hw hI.1 hp hq hl), RSv_b (fun d s hX => m259 hw hX.1 hp hq hl)⟩
      · rw [o 52 (by omega)]; exact m1
      · rw [o 54 (by omega)]; exact hA.1.2.1
theorem JC_settle (hA : gd A) : JC X 172 263 [.int x, .int y] k1 A := by
  have hw := hA.1.1
  have h8 := wf_n hw
  cases h : ip (A.1.1 55) x && ip (A.1.1 55) y
  · exact Or.inr ⟨0, 1, by decide, CSx_ (fun d s hI => x172 hw hI.1.1 h), RSx_ (fun d s hX => f263 h8 h)⟩
  · obtain ⟨hx, hy⟩ := Bool.and_eq_true_iff.mp h
    obtain ⟨p, hp, rfl⟩ := ip_x hx
    obtain ⟨q, hq, rfl⟩ := ip_x hy
    cases hl : fcsp A.1.1 p q
    · exact Or.inl ⟨_, stA A 1, gd_st hA, CSv_b (b := (stA A 1).1) (fun d s hI => n172 hw hI.1 hp hq hl), RSv_b (b := (stA A 1).1) (fun d s hX => n263 hw hX.1 hp hq hl)⟩
    · have hn : ¬ p = q := by
        have h2 := hl
        unfold fcsp at h2
        exact of_decide_eq_true (Bool.and_eq_true_iff.mp h2).1
      have hi := fp_lt (show p < 8 by omega) (show q < 8 by omega) hn
      have o : ∀ j, j < 24 ∨ (52 ≤ j ∧ j < 56) → fe A.1.1 (fp p q) j = A.1.1 j := fun j hj => by rw [fe_j hi (by omega), if_neg (by omega)]
      refine Or.inl ⟨_, _, gd_act hA ?_ ?_ ⟨fun j hj => (o j (by omega)).symm, (o 53 (by omega)).symm, (o 55 (by omega)).symm, (fe_64 hi).symm⟩, CSv_b (fun d s hI => q172 hw hI.1 hp hq hl), RSv_b (fun d s hX => m263 hw hX.1 hp hq hl)⟩
      · rw [o 52 (by omega)]; exact wf_fe hw hi
      · rw [o 54 (by omega)]; exact hA.1.2.1
theorem JC_pick (hA : gd A) : JC X 173 264 [.int x, .int y, .int w, .int n] k1 A := by
  have hw := hA.1.1
  have h8 := wf_n hw
  cases h : ip (A.1.1 55) x && ip (A.1.1 55) y
  · exact Or.inr ⟨0, 1, by decide, CSx_ (fun d s hI => x173 hw hI.1.1 h), RSx_ (fun d s hX => f264 h8 h)⟩
  · obtain ⟨hx, hy⟩ := Bool.and_eq_true_iff.mp h
    obtain ⟨p, hp, rfl⟩ := ip_x hx
    obtain ⟨q, hq, rfl⟩ := ip_x hy
    cases hl : ib 1 99 w && (ib 0 9 n && fcq A.1.1 p q)
    · exact Or.inl ⟨_, stA A 1, gd_st hA, CSv_b (b := (stA A 1).1) (fun d s hI => n173 hw hI.1 hp hq hl), RSv_b (b := (stA A 1).1) (fun d s hX => n264 hw hX.1 hp hq hl)⟩
    · obtain ⟨l1, l2⟩ := Bool.and_eq_true_iff.mp hl
      obtain ⟨l3, l4⟩ := Bool.and_eq_true_iff.mp l2
      obtain ⟨k, k1, k2, rfl⟩ := ib_x l1
      obtain ⟨v, -, v2, rfl⟩ := ib_x l3
      obtain ⟨m1, hn⟩ := wf_pik hw (show p < 8 by omega) (show q < 8 by omega) l4 k1 k2 v2
      have hi := fp_lt (show p < 8 by omega) (show q < 8 by omega) hn
      have o : ∀ j, j < 24 ∨ (52 ≤ j ∧ j < 56) → fb A.1.1 (fp p q) k v j = A.1.1 j := fun j hj => by rw [fb_j hi (by omega), if_neg (by omega)]
      refine Or.inl ⟨_, _, gd_act hA ?_ ?_ ⟨fun j hj => (o j (by omega)).symm, (o 53 (by omega)).symm, (o 55 (by omega)).symm, (fb_64 hi).symm⟩, CSv_b (fun d s hI => q173 hw hI.1 hp hq k1 k2 v2 l4), RSv_b (fun d s hX => m264 hw hX.1 hp hq k1 k2 v2 l4)⟩
      · rw [o 52 (by omega)]; exact m1
      · rw [o 54 (by omega)]; exact hA.1.2.1
theorem JC_undo (hA : gd A) : JC X 146 267 [] k0 A := by
  by_cases q : 0 < A.1.2.2.1
  · obtain ⟨c1, c2, c3⟩ := hA.1.2.2.2 (A.1.2.2.1 - 1) (by omega)
    refine Or.inl ⟨_, ((A.1.2.1 (A.1.2.2.1 - 1), A.1.2.1, A.1.2.2.1 - 1, A.1.2.2.2.1, A.1.2.2.2.2), A.2), ?_, CSv_b (fun d s hI => q146 hI.1 q), RSv_b (fun d s hX => m267 hX.1 q c3)⟩
    refine ⟨⟨c1, c2, hA.1.2.2.1, fun j hj => ?_⟩, hA.2.1, fun b hb => ⟨(hA.2.2.1 b hb).1, sst_trans (hA.2.2.1 b hb).2 (sst_symm c3)⟩, hA.2.2.2⟩
    have hj : j < A.1.2.2.1 - 1 := hj
    obtain ⟨d1, d2, d3⟩ := hA.1.2.2.2 j (by omega)
    exact ⟨d1, d2, sst_trans d3 (sst_symm c3)⟩
  · have q0 : A.1.2.2.1 = 0 := by omega
    refine Or.inl ⟨-1, A, hA, CSv_s (fun d s hI => ?_), RSv_2 (fun d s hX => ?_)⟩
    · have h := hI.1
      rw [q0] at h
      exact n146 h
    · have h := hX.1
      rw [q0] at h
      exact n267 h
theorem JC_see (hA : gd A) : JC X 188 293 [.int x, .int y, .int w, .int n] k1 A := by
  have hw := hA.1.1
  have h8 := wf_n hw
  have hO := hA.1.2.2.1
  cases h : ip (A.1.1 55) x && ip (A.1.1 55) y
  · exact Or.inr ⟨0, 1, by decide, CSx_ (fun d s hI => x188 hw hI.1.1 h), RSx_ (fun d s hX => f293 h8 h)⟩
  · obtain ⟨hx, hy⟩ := Bool.and_eq_true_iff.mp h
    obtain ⟨p, hp, rfl⟩ := ip_x hx
    obtain ⟨q, hq, rfl⟩ := ip_x hy
    cases hl : ib 0 20 w && (ib 0 99 n && (decide (¬ p = q) && decide (A.1.2.2.2.1.2.2.2 < 8)))
    · exact Or.inl ⟨_, stA A 2, gd_st hA, CSv_b (b := (stA A 2).1) (fun d s hI => n188 hw hI.1 hO hp hq hl), RSv_b (b := (stA A 2).1) (fun d s hX => n293 hw hX.1 hO hp hq hl)⟩
    · obtain ⟨l1, l2⟩ := Bool.and_eq_true_iff.mp hl
      obtain ⟨l3, l4⟩ := Bool.and_eq_true_iff.mp l2
      obtain ⟨l5, l6⟩ := Bool.and_eq_true_iff.mp l4
      have hn := of_decide_eq_true l5
      have h7 := of_decide_eq_true l6
      obtain ⟨v, -, v2, rfl⟩ := ib_x l1
      obtain ⟨k, -, k2, rfl⟩ := ib_x l3
      refine Or.inl ⟨_, sgA A (sadd A.1.2.2.2.1 (fp p q) v k), gd_sg hA ?_, CSv_b (b := (sgA A (sadd A.1.2.2.2.1 (fp p q) v k)).1) (fun d s hI => q188 hw hI.1 hp hq v2 k2 hn h7), RSv_b (b := (sgA A (sadd A.1.2.2.2.1 (fp p q) v k)).1) (fun d s hX => m293 hw hX.1 hp hq v2 k2 hn h7)⟩
      have hi := fp_lt (show p < 8 by omega) (show q < 8 by omega) hn
      refine ⟨by show A.1.2.2.2.1.2.2.2 + 1 ≤ 8; omega, fun j hj => ?_⟩
      have hj : j < A.1.2.2.2.1.2.2.2 + 1 := hj
      unfold sadd mr_u
      by_cases e : j = A.1.2.2.2.1.2.2.2
      · simp only [if_pos e]; exact ⟨hi, v2, k2⟩
      · simp only [if_neg e]; exact hO.2 j (by omega)
theorem JC_forget (hA : gd A) : JCv X 160 299 A := ⟨sgA A (s0 A.1.2.2.2.1), gd_sg hA ⟨Nat.zero_le _, fun k hk => absurd hk (Nat.not_lt_zero k)⟩, CSv_b (b := (sgA A (s0 A.1.2.2.2.1)).1) (fun d s hI => q160 hI.1), RSv_b (b := (sgA A (s0 A.1.2.2.2.1)).1) (fun d s hX => m299 hX.1)⟩
end
