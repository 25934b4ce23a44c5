/-! the goal -/
def f00 : Nat → Nat := fun j => if j = 64 then 1 else 0
def A00 : AS := ((f00, (fun _ _ => 0), 0, ((fun _ => 0), (fun _ => 0), (fun _ => 0), 0), (fun _ => nI 0)), ((fun _ => 0), 0, (fun _ => 0), 0), none, (fun _ => 0), 0, none)
theorem f00_j {j : Nat} (h : ¬ j = 64) : f00 j = 0 := if_neg h
theorem s0_z {a b : Nat} (h : ¬ (a = 0 ∧ b = 10) ∧ ¬ (a = 18 ∧ (2 ≤ b ∧ b ≤ 5)) ∧ ¬ (a = 22 ∧ b = 4) ∧ ¬ (a = 27 ∧ (2 ≤ b ∧ b ≤ 5)) ∧ ¬ (a = 42 ∧ b = 24)) : s0w.1 a b = nI 0 := by
  show s0i a b = nI 0
  unfold s0i
  rw [if_neg h.1, if_neg h.2.1, if_neg h.2.2.1, if_neg h.2.2.2.1, if_neg h.2.2.2.2]
  rfl
theorem wf00 : wf f00 (f00 52) := by
  refine ⟨fun j => ?_, by decide, by decide, fun p hp => ?_, ?_, fun i hi => Or.inl (f00_j (by omega)), ?_⟩
  · unfold f00; split <;> decide
  · rw [f00_j (by omega), f00_j (by omega)]; decide
  · intro p q hp h
    unfold fs at h
    rw [f00_j (by omega)] at h
    cases h
  · intro p hp q
    have : fhp f00 p q = 0 ∨ ¬ q < 8 := by
      by_cases hq : q < 8
      · left
        unfold fhp
        by_cases e : p = q
        · rw [if_pos e]
        · have := fp_lt hp hq e
          rw [if_neg e]
          unfold fh
          rw [f00_j (by omega)]
      · exact Or.inr hq
    rw [f00_j (by omega), Nat.zero_testBit]
    rcases this with e | e
    · rw [e]; simp
    · rw [decide_eq_false e]; rfl
theorem gd00 : gd A00 := ⟨⟨wf00, by decide, ⟨Nat.zero_le _, fun k hk => absurd hk (Nat.not_lt_zero k)⟩, fun j hj => absurd hj (Nat.not_lt_zero j)⟩, ⟨fun h => absurd h (Nat.lt_irrefl 0), fun h => absurd h (Nat.lt_irrefl 0)⟩, fun b hb => (by cases hb), fun j hj => absurd hj (Nat.not_lt_zero j), fun p hp => (by cases hp)⟩
theorem CI00 : CI s0w A00 := by
  refine ⟨⟨fun j hj => ?_, ⟨Nat.zero_le _, s0_z (by omega), 0, by decide, s0_z (by omega), fun j hj => absurd hj (Nat.not_lt_zero j)⟩, ⟨s0_z (by omega), fun j hj => absurd hj (Nat.not_lt_zero j)⟩, fun j hj => s0_z (by omega)⟩, ⟨fun _ => rfl, fun h => absurd h (Nat.lt_irrefl 0), fun _ => rfl, fun h => absurd h (Nat.lt_irrefl 0)⟩, s0_z (by omega), fun b hb => (by cases hb), ⟨Nat.zero_le _, s0_z (by omega), fun j hj => absurd hj (Nat.not_lt_zero j)⟩, rfl⟩
  show s0w.1 4 j = nI (f00 j)
  rw [f00_j (by omega), s0_z (by omega)]
theorem gh00 (b : Nat) (hb : b < 64) : gh f00 b = 0 ∧ gw f00 b = 0 ∧ gc f00 b = 0 := by
  unfold gh gw gc
  by_cases q : b / 8 < b % 8
  · have := fp64 hb q
    rw [if_pos q, if_pos q, if_pos q]
    unfold fh fw fc
    rw [f00_j (by omega)]
    decide
  · rw [if_neg q, if_neg q, if_neg q]
    exact ⟨rfl, rfl, rfl⟩
theorem MI00 : MI s0w A00 := by
  refine ⟨?_, ⟨⟨Nat.zero_le _, s0_z (by omega), fun j hj => absurd hj (Nat.not_lt_zero j)⟩, ⟨s0_z (by omega), fun j hj => absurd hj (Nat.not_lt_zero j)⟩, fun j hj => s0_z (by omega)⟩, ⟨Nat.zero_le _, Nat.zero_le _, s0_z (by omega), s0_z (by omega), fun j hj => absurd hj (Nat.not_lt_zero j), fun j hj => absurd hj (Nat.not_lt_zero j)⟩, s0_z (by omega), fun b hb => (by cases hb), ⟨Nat.zero_le _, s0_z (by omega), fun j hj => absurd hj (Nat.not_lt_zero j)⟩, rfl⟩
  show mp s0w f00 = s0w
  refine mp_self ?_ ?_ ?_ ?_ ?_ ?_ ?_ ?_ ?_ ?_
  · intro b hb; rw [(gh00 b hb).1, s0_z (by omega)]
  · intro b hb; rw [(gh00 b hb).2.1, s0_z (by omega)]
  · intro b hb; rw [(gh00 b hb).2.2, s0_z (by omega)]
  · intro b hb
    rw [s0_z (by omega)]
    exact (if_pos ⟨rfl, rfl⟩ : sp f00 b = nI 0).symm
  · intro b hb; rw [f00_j (by omega), s0_z (by omega)]
  · intro b hb; rw [f00_j (by omega), s0_z (by omega)]
  · rw [f00_j (by omega), s0_z (by omega)]
  · rw [f00_j (by omega), s0_z (by omega)]
  · rw [f00_j (by omega), s0_z (by omega)]
  · intro b hb
    exact absurd hb (by rw [f00_j (by omega)]; exact Nat.not_lt_zero b)
theorem e336_0 : decode code 0 = .ok (.new 8, 3) := by decide +kernel
theorem e336_3 : decode code 3 = .ok (.dup, 1) := by decide +kernel
theorem e336_4 : decode code 4 = .ok (.invokespecial 90, 3) := by decide +kernel
theorem e336_7 : decode code 7 = .ok (.astore_n 1, 1) := by decide +kernel
theorem e336_8 : decode code 8 = .ok (.new 91, 3) := by decide +kernel
theorem e336_11 : decode code 11 = .ok (.dup, 1) := by decide +kernel
theorem e336_12 : decode code 12 = .ok (.invokespecial 93, 3) := by decide +kernel
theorem e336_15 : decode code 15 = .ok (.astore_n 2, 1) := by decide +kernel
theorem e336_16 : decode code 16 = .ok (.iconst 1, 1) := by decide +kernel
theorem e336_17 : decode code 17 = .ok (.newarray .long, 2) := by decide +kernel
theorem e336_19 : decode code 19 = .ok (.astore_n 3, 1) := by decide +kernel
theorem e336_20 : decode code 20 = .ok (.iconst 0, 1) := by decide +kernel
theorem e336_21 : decode code 21 = .ok (.istore 4, 2) := by decide +kernel
section
variable {X : mj_X}
abbrev w00a : mj_W := ([.inr (8, mj_def 8)], 1, 12)
abbrev w00b : mj_W := (mw_V (mw_sh0.take 42) s0w, 42, 8855)
abbrev w00c : mj_W := (mw_V (mw_sh0.take 42) s0w ++ [.inr (9, mj_def 9)], 43, 8912)
abbrev w00d : mj_W := (((mw_V (mw_sh0.take 79) s0w).set 43 rw43).set 44 rw44, 79, 35972)
theorem e141 : mj_call X 899 141 [.ref 0] w00a = some (.inl none, w00b) := (mw_ent mw_m141 (Nat.le_of_ble_eq_true rfl) rfl).trans (mj_exec_iff.mpr ⟨200, t141 X⟩)
theorem e193 : mj_call X 899 193 [.ref 42] w00c = some (.inl none, w00d) := (mw_ent mw_m193 (Nat.le_of_ble_eq_true rfl) rfl).trans (mj_exec_iff.mpr ⟨300, t193 X⟩)
theorem go_1 : mj_exec X 900 336 0 [some (.ref 1000002), none, none, none, none, none, none] [] ([], 0, 0) = mj_exec X 900 336 4 [some (.ref 1000002), none, none, none, none, none, none] [.ref 0, .ref 0] w00a := (mj_exec_inl mj_law e336_0 (r := (3, [some (.ref 1000002), none, none, none, none, none, none], [.ref 0], w00a)) rfl).trans (mj_exec_inl mj_law e336_3 (r := (4, [some (.ref 1000002), none, none, none, none, none, none], [.ref 0, .ref 0], w00a)) rfl)
theorem go_2 : mj_exec X 900 336 4 [some (.ref 1000002), none, none, none, none, none, none] [.ref 0, .ref 0] w00a = mj_exec X 900 336 7 [some (.ref 1000002), none, none, none, none, none, none] [.ref 0] w00b := by
  refine (mj_exec_call (d := 899) mj_law e336_4 (z := 141) (As := [.ref 0]) (rest := [.ref 0]) rfl).trans ?_
  rw [e141]
  rfl
set_option maxRecDepth 100000 in
theorem go_3 : mj_exec X 900 336 7 [some (.ref 1000002), none, none, none, none, none, none] [.ref 0] w00b = mj_exec X 900 336 12 [some (.ref 1000002), some (.ref 0), none, none, none, none, none] [.ref 42, .ref 42] w00c := (mj_exec_inl mj_law e336_7 (r := (8, [some (.ref 1000002), some (.ref 0), none, none, none, none, none], [], w00b)) rfl).trans ((mj_exec_inl mj_law e336_8 (r := (11, [some (.ref 1000002), some (.ref 0), none, none, none, none, none], [.ref 42], w00c)) rfl).trans (mj_exec_inl mj_law e336_11 (r := (12, [some (.ref 1000002), some (.ref 0), none, none, none, none, none], [.ref 42, .ref 42], w00c)) rfl))
set_option maxRecDepth 100000 in
theorem go_4 : mj_exec X 900 336 12 [some (.ref 1000002), some (.ref 0), none, none, none, none, none] [.ref 42, .ref 42] w00c = mj_exec X 900 336 15 [some (.ref 1000002), some (.ref 0), none, none, none, none, none] [.ref 42] w00d := by
  refine (mj_exec_call (d := 899) mj_law e336_12 (z := 193) (As := [.ref 42]) (rest := [.ref 42]) rfl).trans ?_
  rw [e193]
  rfl
abbrev w00e : mj_W := ((((mw_V (mw_sh0.take 79) s0w).set 43 rw43).set 44 rw44) ++ [.inl (.long, 1, .inr (.inl fun _ => 0))], 80, 35973)
set_option maxRecDepth 100000 in
theorem go_5 : mj_exec X 900 336 15 [some (.ref 1000002), some (.ref 0), none, none, none, none, none] [.ref 42] w00d = mj_exec X 900 336 23 [some (.ref 1000002), some (.ref 0), some (.ref 42), some (.ref 79), some (.int (nI 0)), none, none] [] w00e := (mj_exec_inl mj_law e336_15 (r := (16, [some (.ref 1000002), some (.ref 0), some (.ref 42), none, none, none, none], [], w00d)) rfl).trans ((mj_exec_inl mj_law e336_16 (r := (17, [some (.ref 1000002), some (.ref 0), some (.ref 42), none, none, none, none], [.int (nI 1)], w00d)) rfl).trans ((mj_exec_inl mj_law e336_17 (r := (19, [some (.ref 1000002), some (.ref 0), some (.ref 42), none, none, none, none], [.ref 79], w00e)) rfl).trans ((mj_exec_inl mj_law e336_19 (r := (20, [some (.ref 1000002), some (.ref 0), some (.ref 42), some (.ref 79), none, none, none], [], w00e)) rfl).trans ((mj_exec_inl mj_law e336_20 (r := (21, [some (.ref 1000002), some (.ref 0), some (.ref 42), some (.ref 79), none, none, none], [.int (nI 0)], w00e)) rfl).trans (mj_exec_inl mj_law e336_21 (r := (23, [some (.ref 1000002), some (.ref 0), some (.ref 42), some (.ref 79), some (.int (nI 0)), none, none], [], w00e)) rfl)))))
theorem go_all : mj_exec X 900 336 0 (mj_entry 7 [.ref 1000002]) [] ([], 0, 0) = mj_exec X 900 336 23 [some (.ref 1000002), some (.ref 0), some (.ref 42), some (.ref 79), some (.int (nI 0)), none, none] [] (mw_U s0w) := by
  rw [← w0_eq]
  exact go_1.trans (go_2.trans (go_3.trans (go_4.trans go_5)))
theorem few : ∀ k, k < 6 → nI k - nI 6 < nI 0 := by decide
theorem mj_goal : mj_Goal := by
  intro X hX
  by_cases h6 : 6 ≤ X.1
  · obtain ⟨t, e, t1, t2⟩ := loop_all (X := X) (d := 798) hX h6 X.1 0 s0w A00 none none (by omega) gd00 CI00 MI00 (by decide) (by decide) (by omega)
    obtain ⟨n, hn⟩ := mj_exec_iff.mp (go_all.trans e)
    exact ⟨n, mw_U t, hn, Nat.le_trans t1 (by decide), Nat.le_trans t2 (by decide)⟩
  · have e : mj_exec X 900 336 23 [some (.ref 1000002), some (.ref 0), some (.ref 42), some (.ref 79), some (.int (nI 0)), none, none] [] (mw_U s0w) = some (.inl (some (.int (nI 1))), mw_U s0w) := by
      rw [b336_23 mw_l_79, if_pos (few X.1 (by omega)), b336_2142 mw_l_79]
    obtain ⟨n, hn⟩ := mj_exec_iff.mp (go_all.trans e)
    exact ⟨n, mw_U s0w, hn, by decide, by decide⟩
end
