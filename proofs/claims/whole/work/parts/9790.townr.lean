/-! town, in the reference -/
section
variable {X : mj_X} {A : AS} {x : Int32} {s t : mw_S} {tp : Nat → Nat} {n a : Nat} {σ : YS} {f g : Nat → Nat}
def tB (c b : Nat) : Prop := tA c b ∨ (c = 42 ∧ (b = 2 ∨ b = 15 ∨ b = 17 ∨ b = 24))
def fU (s t : mw_S) : Prop := t.2 = s.2 ∧ ∀ c b, ¬ tB c b → t.1 c b = s.1 c b
theorem fU_p {u : mw_S} {c b : Nat} {v : Int32} (h : fU s t) (hb : tB c b) : fU s (mw_p t c b v) := ⟨h.1, fun c' b' hb' => by
  rw [mw_p1, if_neg (fun z => hb' (by rw [z.1, z.2]; exact hb))]; exact h.2 c' b' hb'⟩
def oZ (s : mw_S) (i : Nat) : mw_S := (fun a b => if a = 50 ∧ (64 ≤ b ∧ b < 64 + i) then nI 0 else s.1 a b, s.2)
theorem oZ_s {i : Nat} : mw_p (oZ s i) 50 (64 + i) (nI 0) = oZ s (i + 1) := by
  refine mw_ext (fun a b => ?_) rfl
  rw [mw_p1]
  show (if a = 50 ∧ b = 64 + i then nI 0 else (if a = 50 ∧ (64 ≤ b ∧ b < 64 + i) then nI 0 else s.1 a b)) = (if a = 50 ∧ (64 ≤ b ∧ b < 64 + (i + 1)) then nI 0 else s.1 a b)
  by_cases q : a = 50 ∧ b = 64 + i
  · rw [if_pos q, if_pos (by omega)]
  · rw [if_neg q]
    by_cases q2 : a = 50 ∧ (64 ≤ b ∧ b < 64 + i)
    · rw [if_pos q2, if_pos (by omega)]
    · rw [if_neg q2, if_neg (by omega)]
theorem oZ_o {i a b : Nat} (h : ¬ a = 50) : (oZ s i).1 a b = s.1 a b := if_neg (fun z => h z.1)
theorem lp_72 {d i : Nat} {y : Int32} (hi : i ≤ 64) : mj_exec X d 196 72 [some (.ref 42), some (.int y), some (.int (nI 0))] [] (mw_U (mp s f)) = mj_exec X d 196 72 [some (.ref 42), some (.int y), some (.int (nI i))] [] (mw_U (mp (oZ s i) f)) := by
  induction i with
  | zero =>
    have : oZ s 0 = s := mw_ext (fun a b => if_neg (by omega)) rfl
    rw [this]
  | succ i ih =>
    have i64 : ¬ nI 64 ≤ nI i := by rw [mn_le (by omega) (by omega)]; omega
    have i128 : mw_in 128 (nI (64 + i)) = true := by rw [mn_in (by omega)]; exact decide_eq_true (by omega)
    rw [ih (by omega), b196_72, if_neg i64, b196_78, nI_add, if_pos i128, mn_clamp (by omega), nI_add, mp_wo (by omega), oZ_s]
theorem m196 (hX : MX s A) (h7 : ∀ j, j < A.2.2.2.2.1 → A.2.2.2.1 j < 256) (hn : n ≤ A.2.2.2.2.1) {D : Nat} (hD : 8 ≤ D) : ∃ t, YR t A.2.2.2.1 n 0 σ0 ∧ fU s t ∧ t.1 42 2 = nI 0 ∧ t.1 42 15 = nI 0 ∧ t.1 42 24 = -1 ∧ mj_call X D 196 [.ref 42, .int (nI n)] (mw_U (mp s f)) = mj_exec X D 196 100 [some (.ref 42), some (.int (nI n)), some (.int (nI (dn σ0)))] [] (mw_U (mp t f)) := by
  obtain ⟨d, rfl⟩ : ∃ d, D = d + 8 := ⟨D - 8, by omega⟩
  obtain ⟨t1, t2, t3⟩ := hX.2.2.2.2.1
  let s1 := mw_p s 42 2 (nI 0)
  let s5 := mw_p (mw_p (mw_p (mw_p (mw_p s1 42 15 (nI 0)) 42 17 (nI n)) 42 16 (nI 0)) 42 22 (nI 0)) 42 24 (-1)
  let s6 := mw_p (mw_p (mw_p s5 45 3 (nI 0)) 45 4 (nI 0)) 45 5 (nI 0)
  have q6 : ∀ c b, ¬ c = 42 → ¬ c = 45 → s6.1 c b = s.1 c b := fun c b c1 c2 => by
    show (mw_p (mw_p (mw_p (mw_p (mw_p (mw_p (mw_p (mw_p (mw_p s 42 2 (nI 0)) 42 15 (nI 0)) 42 17 (nI n)) 42 16 (nI 0)) 42 22 (nI 0)) 42 24 (-1)) 45 3 (nI 0)) 45 4 (nI 0)) 45 5 (nI 0)).1 c b = _
    rw [mw_pne c2, mw_pne c2, mw_pne c2, mw_pne c1, mw_pne c1, mw_pne c1, mw_pne c1, mw_pne c1, mw_pne c1]
  have q42 : ∀ b, (oZ s6 64).1 42 b = s5.1 42 b := fun b => by
    rw [oZ_o (by decide)]
    show (mw_p (mw_p (mw_p s5 45 3 (nI 0)) 45 4 (nI 0)) 45 5 (nI 0)).1 42 b = _
    rw [mw_pne (by decide), mw_pne (by decide), mw_pne (by decide)]
  have hP : PR (oZ s6 64) A.2.2.2.1 n 0 := by
    refine ⟨Nat.zero_le _, by omega, ?_, ?_, fun j hj => ⟨h7 j (by omega), ?_⟩⟩
    · rw [q42]
      show (mw_p (mw_p (mw_p (mw_p (mw_p s1 42 15 (nI 0)) 42 17 (nI n)) 42 16 (nI 0)) 42 22 (nI 0)) 42 24 (-1)).1 42 17 = nI n
      rw [mw_pnj (by decide), mw_pnj (by decide), mw_pnj (by decide), mw_peq]
    · rw [q42]
      show (mw_p (mw_p (mw_p (mw_p (mw_p s1 42 15 (nI 0)) 42 17 (nI n)) 42 16 (nI 0)) 42 22 (nI 0)) 42 24 (-1)).1 42 16 = nI 0
      rw [mw_pnj (by decide), mw_pnj (by decide), mw_peq]
    · rw [oZ_o (by decide), q6 56 j (by decide) (by decide)]
      exact t3 j (by omega)
  obtain ⟨t, e, h1, h2⟩ := c198 (X := X) (d := d + 5) (f := f) hP
  have z42 : ∀ b, ¬ b = 16 → ¬ b = 18 → ¬ b = 19 → ¬ b = 20 → ¬ b = 21 → t.1 42 b = s5.1 42 b := fun b b1 b2 b3 b4 b5 => by rw [h2.2.2 b b1 b2 b3 b4 b5, q42]
  have z45 : ∀ b, t.1 45 b = s6.1 45 b := fun b => by rw [h2.2.1 45 (by decide), oZ_o (by decide)]
  refine ⟨t, ⟨h1, ?_, ⟨?_, fun p hp => absurd hp (Nat.not_lt_zero p), fun k hk => ?_, fun k hk h0 => ?_⟩, ⟨?_, fun j hj => absurd hj (Nat.not_lt_zero j)⟩, ⟨?_, fun j hj => absurd hj (Nat.not_lt_zero j)⟩⟩, ?_, ?_, ?_, ?_, ?_⟩
  · rw [z42 22 (by decide) (by decide) (by decide) (by decide) (by decide)]
    show (mw_p (mw_p (mw_p (mw_p (mw_p s1 42 15 (nI 0)) 42 17 (nI n)) 42 16 (nI 0)) 42 22 (nI 0)) 42 24 (-1)).1 42 22 = nI 0
    rw [mw_pnj (by decide), mw_peq]
  · rw [z45]
    show (mw_p (mw_p (mw_p s5 45 3 (nI 0)) 45 4 (nI 0)) 45 5 (nI 0)).1 45 3 = nI 0
    rw [mw_pnj (by decide), mw_pnj (by decide), mw_peq]
  · rw [h2.2.1 50 (by decide)]
    have e0 : gh σ0.1 k = 0 := by
      unfold gh fh σ0
      split <;> rfl
    rw [e0]
    show (if 50 = 50 ∧ (64 ≤ 64 + k ∧ 64 + k < 64 + 64) then nI 0 else s6.1 50 (64 + k)) = nI 0
    rw [if_pos (by omega)]
  · have e0 : gh σ0.1 k = 0 := by
      unfold gh fh σ0
      split <;> rfl
    omega
  · show t.1 45 4 = nI 0
    rw [z45]
    show (mw_p (mw_p (mw_p s5 45 3 (nI 0)) 45 4 (nI 0)) 45 5 (nI 0)).1 45 4 = nI 0
    rw [mw_pnj (by decide), mw_peq]
  · show t.1 45 5 = nI 0
    rw [z45]
    exact mw_peq
  · have f6 : fU s s6 := fU_p (u := s) (fU_p (u := s) (fU_p (u := s) (fU_p (u := s) (fU_p (u := s) (fU_p (u := s) (fU_p (u := s) (fU_p (u := s) (fU_p (u := s) ⟨rfl, fun _ _ _ => rfl⟩ (by unfold tB; omega)) (by unfold tB; omega)) (by unfold tB; omega)) (by unfold tB tA; omega)) (by unfold tB tA; omega)) (by unfold tB; omega)) (by unfold tB tA; omega)) (by unfold tB tA; omega)) (by unfold tB tA; omega)
    refine ⟨h2.1.trans f6.1, fun c b hb => ?_⟩
    have hb' := hb
    unfold tB tA at hb'
    by_cases c42 : c = 42
    · subst c42
      rw [h2.2.2 b (by omega) (by omega) (by omega) (by omega) (by omega), oZ_o (by decide)]
      exact f6.2 42 b hb
    · rw [h2.2.1 c c42, oZ_o (by omega)]
      exact f6.2 c b hb
  · rw [z42 2 (by decide) (by decide) (by decide) (by decide) (by decide)]
    show (mw_p (mw_p (mw_p (mw_p (mw_p (mw_p s 42 2 (nI 0)) 42 15 (nI 0)) 42 17 (nI n)) 42 16 (nI 0)) 42 22 (nI 0)) 42 24 (-1)).1 42 2 = nI 0
    rw [mw_pnj (by decide), mw_pnj (by decide), mw_pnj (by decide), mw_pnj (by decide), mw_pnj (by decide), mw_peq]
  · rw [z42 15 (by decide) (by decide) (by decide) (by decide) (by decide)]
    show (mw_p (mw_p (mw_p (mw_p (mw_p s1 42 15 (nI 0)) 42 17 (nI n)) 42 16 (nI 0)) 42 22 (nI 0)) 42 24 (-1)).1 42 15 = nI 0
    rw [mw_pnj (by decide), mw_pnj (by decide), mw_pnj (by decide), mw_pnj (by decide), mw_peq]
  · rw [z42 24 (by decide) (by decide) (by decide) (by decide) (by decide)]
    exact mw_peq
  · have i3 : ∀ i, i < 3 → ¬ nI 3 ≤ nI i := fun i hi => by rw [mn_le (by omega) (by omega)]; omega
    have in6 : ∀ i, i < 3 → mw_in 6 (nI (3 + i)) = true := fun i hi => by rw [mn_in (by omega)]; exact decide_eq_true (by omega)
    have st : ∀ (u : mw_S) i, i < 3 → mj_exec X (d + 8) 196 50 [some (.ref 42), some (.int (nI n)), some (.int (nI i))] [] (mw_U (mp u f)) = mj_exec X (d + 8) 196 50 [some (.ref 42), some (.int (nI n)), some (.int (nI (i + 1)))] [] (mw_U (mp (mw_p u 45 (3 + i) (nI 0)) f)) := fun u i hi => by
      rw [b196_50, if_neg (i3 i hi), b196_55, nI_add, if_pos (in6 i hi), nI_add, mn_clamp (by omega), mp_w45 (by omega)]
    have e5 : mw_p (mw_p (mw_p (mw_p (mw_p (mp s1 f) 42 15 (nI 0)) 42 17 (nI n)) 42 16 (nI 0)) 42 22 (nI 0)) 42 24 (-1) = mp s5 f := by
      rw [mp_wo (by omega), mp_wo (by omega), mp_wo (by omega), mp_wo (by omega), mp_wo (by omega)]
    have h15 : (mp s1 f).1 42 15 = nI A.2.2.2.2.1 := by
      rw [mp_42 (by decide)]
      show (mw_p s 42 2 (nI 0)).1 42 15 = _
      rw [mw_pnj (by decide)]; exact t2
    rw [b196, b196_0, if_neg (by rw [mn_lt0 (by omega)]; exact id), mp_wo (by omega), b196_9]
    rw [show ((mp (mw_p s 42 2 (nI 0)) f).1 42 15) = nI A.2.2.2.2.1 from h15, if_pos (by rw [mn_le (by omega) (by omega)]; exact hn), b196_23]
    rw [show mw_p (mw_p (mw_p (mw_p (mw_p (mp (mw_p s 42 2 (nI 0)) f) 42 15 (nI 0)) 42 17 (nI n)) 42 16 (nI 0)) 42 22 (nI 0)) 42 24 (-1) = mp s5 f from e5]
    rw [st s5 0 (by decide), st _ 1 (by decide), st _ 2 (by decide), b196_50, if_pos (by decide), b196_70, lp_72 (i := 64) (Nat.le_refl _), b196_72, if_pos (by decide), b196_94]
    exact (congrArg (fun z => Option.bind z _) e).trans (by rw [mj_bk_v, b196_98]; rfl)
end
