/-! town, both at once -/
section
variable {X : mj_X} {A : AS} {x : Int32} {s t u : mw_S} {tp : Nat → Nat} {n a : Nat} {σ : YS} {f g : Nat → Nat}
theorem mp_self (h59 : ∀ b, b < 64 → u.1 59 b = nI (gh g b)) (h60 : ∀ b, b < 64 → u.1 60 b = nI (gw g b)) (h61 : ∀ b, b < 64 → u.1 61 b = nI (gc g b)) (h57 : ∀ b, b < 8 → u.1 57 b = sp g b) (h58 : ∀ b, b < 8 → u.1 58 b = nI (g (8 + b))) (h55 : ∀ b, b < 8 → u.1 55 b = nI (g b)) (h32 : u.1 42 32 = nI (g 54)) (h33 : u.1 42 33 = nI (g 52)) (h0 : u.1 45 0 = nI (g 55)) (h46 : ∀ b, b < g 55 → u.1 46 b = nI ((g 53).testBit b).toNat) : mp u g = u := by
  refine mw_ext (fun a b => ?_) rfl
  unfold mp mq
  show (if a = 59 ∧ b < 64 then _ else _) = _
  by_cases c0 : a = 59 ∧ b < 64
  · rw [if_pos c0, c0.1, h59 b c0.2]
  rw [if_neg c0]
  by_cases c1 : a = 60 ∧ b < 64
  · rw [if_pos c1, c1.1, h60 b c1.2]
  rw [if_neg c1]
  by_cases c2 : a = 61 ∧ b < 64
  · rw [if_pos c2, c2.1, h61 b c2.2]
  rw [if_neg c2]
  by_cases c3 : a = 57 ∧ b < 8
  · rw [if_pos c3, c3.1, h57 b c3.2]
  rw [if_neg c3]
  by_cases c4 : a = 58 ∧ b < 8
  · rw [if_pos c4, c4.1, h58 b c4.2]
  rw [if_neg c4]
  by_cases c5 : a = 55 ∧ b < 8
  · rw [if_pos c5, c5.1, h55 b c5.2]
  rw [if_neg c5]
  by_cases c6 : a = 42 ∧ b = 32
  · rw [if_pos c6, c6.1, c6.2, h32]
  rw [if_neg c6]
  by_cases c7 : a = 42 ∧ b = 33
  · rw [if_pos c7, c7.1, c7.2, h33]
  rw [if_neg c7]
  by_cases c8 : a = 45 ∧ b = 0
  · rw [if_pos c8, c8.1, c8.2, h0]
  rw [if_neg c8]
  by_cases c9 : a = 46 ∧ b < g 55
  · rw [if_pos c9, c9.1, h46 b c9.2]
  rw [if_neg c9]
theorem oE_42 {b : Nat} : (oE s g).1 42 b = if b = 48 then nI 0 else if b = 35 then nI 0 else if b = 34 then nI 0 else if b = 33 then nI (g 52) else if b = 32 then nI 0 else s.1 42 b := by
  unfold oE
  rw [mw_p1, mw_p1, mw_p1, oQ_o (by decide), oP_o (by decide), mw_p1, mw_p1, o9_at]
  simp
theorem oE_q {a b : Nat} (h : ¬ a = 42) : (oE s g).1 a b = (oQ (oP (mw_p (mw_p (o9 s) 42 32 (nI 0)) 42 33 (nI (g 52))) g 8) g 64).1 a b := by
  unfold oE
  rw [mw_pne h, mw_pne h, mw_pne h]
theorem oE_9 {a b : Nat} (h : ¬ a = 42) (h2 : ¬ a = 55 ∧ ¬ a = 57 ∧ ¬ a = 58 ∧ ¬ a = 59 ∧ ¬ a = 60 ∧ ¬ a = 61) : (oE s g).1 a b = (o9 s).1 a b := by
  rw [oE_q h, oQ_o (by omega), oP_o (by omega), mw_pne h, mw_pne h]
theorem oE_o {a b : Nat} (h : a < 42 ∨ a = 43 ∨ a = 44 ∨ a = 54 ∨ a = 56 ∨ 61 < a) : (oE s g).1 a b = s.1 a b := by
  rw [oE_9 (by omega) (by omega), o9_at, if_neg (by omega), if_neg (by omega), if_neg (by omega), if_neg (by omega), if_neg (by omega), if_neg (by omega), if_neg (by omega), if_neg (by omega), if_neg (by omega)]
theorem oE_mp (hG : GI g) (h : tRL s g) : mp (oE s g) g = oE s g := by
  have hN := wf_n hG.1
  refine mp_self ?_ ?_ ?_ ?_ ?_ ?_ ?_ ?_ ?_ ?_
  · intro b hb; rw [oE_q (by decide)]; unfold oQ; simp [hb]
  · intro b hb; rw [oE_q (by decide)]; unfold oQ; simp [hb]
  · intro b hb; rw [oE_q (by decide)]; unfold oQ; simp [hb]
  · intro b hb; rw [sp_f (fun z => by have := hG.2.2.2.2.2; omega), oE_q (by decide), oQ_o (by decide)]; unfold oP; simp [hb]
  · intro b hb; rw [oE_q (by decide), oQ_o (by decide)]; unfold oP; simp [hb]
  · intro b hb; rw [oE_q (by decide), oQ_o (by decide)]; unfold oP; simp [hb]
  · rw [oE_42, hG.2.2.1]; simp
  · rw [oE_42]; simp
  · rw [oE_9 (by decide) (by decide), o9_at]; exact h.1
  · intro b hb
    have b8 : b < 8 := by omega
    rw [oE_9 (by decide) (by decide), o9_at, if_neg (by omega), if_pos ⟨rfl, b8⟩]
    exact (h.2.1 b hb).1
theorem tRL_mp (hf : f 55 ≤ 8) (h : tRL t g) : tRL (mp t f) g := by
  obtain ⟨h1, h2, h3, h4⟩ := h
  have e46 : ∀ p, (mp t f).1 46 (8 + p) = t.1 46 (8 + p) := fun p => by
    unfold mp mq
    simp only
    rw [if_neg (by omega), if_neg (by omega), if_neg (by omega), if_neg (by omega), if_neg (by omega), if_neg (by omega), if_neg (by omega), if_neg (by omega), if_neg (by omega), if_neg (by omega)]
  refine ⟨by rw [mp_px (by omega)]; exact h1, fun p hp => ?_, fun k hk => by rw [mp_px (by omega)]; exact h3 k hk, fun k hk h0 => by rw [mp_px (by omega)]; exact h4 k hk h0⟩
  rw [e46, mp_px (by omega), mp_px (by omega), mp_px (by omega)]
  exact h2 p hp
theorem RS_ok (hX : MX s A) (hf : f 55 ≤ 8) (hU : fU s t) (hY : YR t tp n a σ) (hW : WL n a σ) (h2 : t.1 42 2 = nI 0) (h15 : t.1 42 15 = nI 0) (h24 : t.1 42 24 = -1) {d : Nat} {y c : Int32} : ∃ u, mj_exec X (d + 2) 196 153 [some (.ref 42), some (.int y), some (.int c)] [] (mw_U (mp t f)) = some (.inl (some (.int (nI 0))), mw_U u) ∧ MI u (okA A σ) ∧ u.1 42 2 = nI 0 ∧ rU s u := by
  have hG := hW.2.2.1
  have hT := tRL_mp hf hY.2.2.1
  have e := c223 (X := X) (d := d) hG hT
  have e2 : ∀ b, ¬ b = 48 → ¬ b = 35 → ¬ b = 34 → ¬ b = 33 → ¬ b = 32 → (oE (mp t f) σ.1).1 42 b = t.1 42 b := fun b b1 b2 b3 b4 b5 => by
    rw [oE_42, if_neg b1, if_neg b2, if_neg b3, if_neg b4, if_neg b5, mp_42 (by omega)]
  obtain ⟨⟨-, -, m3⟩, -, -, -, -, -⟩ := hX
  have hH := hW.2.2.2.2.1
  have hC := hW.2.2.2.2.2.1
  have han := hW.1
  have hn := hW.2.1
  obtain ⟨l1, l2⟩ := hY.2.2.2.1
  obtain ⟨l3, l4⟩ := hY.2.2.2.2
  have l1 : t.1 45 4 = nI σ.2.2.1.length := l1
  have l3 : t.1 45 5 = nI σ.2.2.2.length := l3
  have l2 : ∀ j, j < σ.2.2.1.length → t.1 52 (700 + j) = rm (σ.2.2.1.getD j 0) := l2
  have l4 : ∀ j, j < σ.2.2.2.length → t.1 53 (700 + j) = rm (σ.2.2.2.getD j 0) := l4
  refine ⟨oE (mp t f) σ.1, by rw [b196_153, e, mj_bk_v, b196_157], ⟨oE_mp hG hT, ⟨⟨⟨Nat.zero_le _, ?_, fun j hj => absurd hj (Nat.not_lt_zero j)⟩, ⟨?_, fun k hk => absurd hk (Nat.not_lt_zero k)⟩, fun i hi => ?_⟩, ⟨?_, ?_, ?_, ?_, fun j hj => ?_, fun j hj => ?_⟩, ?_, fun b hb => (by cases hb), ⟨Nat.zero_le _, ?_, fun j hj => absurd hj (Nat.not_lt_zero j)⟩, ?_⟩⟩, ?_, ?_, fun c hc => ?_⟩
  · rw [oE_42]; rfl
  · rw [oE_42]; rfl
  · rw [oE_o (by omega), mp_px (by omega), hU.2 54 i (by unfold tB tA; omega)]
    exact m3 i hi
  · show σ.2.2.1.length ≤ 700; omega
  · show σ.2.2.2.length ≤ 700; omega
  · rw [oE_9 (by decide) (by decide), o9_at, if_pos (by decide), mp_px (by omega)]; exact l1
  · rw [oE_9 (by decide) (by decide), o9_at, if_pos (by decide), mp_px (by omega)]; exact l3
  · have hj : j < σ.2.2.1.length := hj
    rw [oE_9 (by decide) (by decide), o9_at, if_neg (by omega), if_neg (by omega), if_neg (by omega), if_neg (by omega), if_neg (by omega), if_neg (by omega), if_neg (by omega), if_pos (by omega), mp_px (by omega)]
    exact l2 j hj
  · have hj : j < σ.2.2.2.length := hj
    rw [oE_9 (by decide) (by decide), o9_at, if_neg (by omega), if_neg (by omega), if_neg (by omega), if_neg (by omega), if_neg (by omega), if_neg (by omega), if_neg (by omega), if_neg (by omega), if_pos (by omega), mp_px (by omega)]
    exact l4 j hj
  · rw [oE_42]; rfl
  · rw [e2 15 (by decide) (by decide) (by decide) (by decide) (by decide)]; exact h15
  · rw [e2 24 (by decide) (by decide) (by decide) (by decide) (by decide)]; exact h24
  · rw [e2 2 (by decide) (by decide) (by decide) (by decide) (by decide)]; exact h2
  · show t.2 = s.2
    exact hU.1
  · funext b
    rw [oE_o (by omega), mp_px (by omega), hU.2 c b (by unfold tB tA; omega)]
theorem RS_no (hX : MX s A) (hU : fU s t) {k p : Nat} (h22 : t.1 42 22 = nI k) (h23 : t.1 42 23 = nI p) (h2 : t.1 42 2 = nI 0) (h15 : t.1 42 15 = nI 0) {d : Nat} {y c : Int32} : ∃ u, mj_exec X d 196 130 [some (.ref 42), some (.int y), some (.int c)] [] (mw_U (mp t A.1.1)) = some (.inl (some (.int (nI k))), mw_U u) ∧ MI u (noA A p) ∧ u.1 42 2 = nI 0 ∧ rU s u := by
  have i3 : mw_in 3 (nI 0) = true := by decide
  have c0 : (nI 0).toNatClampNeg = 0 := mn_clamp (by omega)
  let v := mw_p (mw_p t 42 24 (nI p)) 54 0 (t.1 54 0 + nI 1)
  have e1 : mw_p (mw_p (mp t A.1.1) 42 24 ((mp t A.1.1).1 42 23)) 54 0 ((mw_p (mp t A.1.1) 42 24 ((mp t A.1.1).1 42 23)).1 54 0 + nI 1) = mp v A.1.1 := by
    rw [mp_42 (by decide), h23, mp_wo (by omega), mp_px (by omega), mw_pne (by decide), mp_wo (by omega)]
  have q : ∀ c b, ¬ tB c b → ¬ c = 54 → v.1 c b = s.1 c b := fun c b hb hc => by
    show (mw_p (mw_p t 42 24 (nI p)) 54 0 (t.1 54 0 + nI 1)).1 c b = _
    rw [mw_pne hc, mw_p1, if_neg (fun z => hb (by unfold tB; omega)), hU.2 c b hb]
  have v42 : ∀ b, ¬ b = 24 → v.1 42 b = t.1 42 b := fun b hb => by
    show (mw_p (mw_p t 42 24 (nI p)) 54 0 (t.1 54 0 + nI 1)).1 42 b = _
    rw [mw_pne (by decide), mw_pnj hb]
  have v24 : v.1 42 24 = nI p := by
    show (mw_p (mw_p t 42 24 (nI p)) 54 0 (t.1 54 0 + nI 1)).1 42 24 = _
    rw [mw_pne (by decide), mw_peq]
  have hMX : MX v (noA A p) := by
    obtain ⟨⟨⟨p1, p2, p3⟩, ⟨s1, s2⟩, m3⟩, ⟨r1, r2, r3, r4, r5, r6⟩, h48, hI, ⟨t1, t2, t3⟩, h24⟩ := hX
    refine ⟨⟨⟨p1, by rw [q 42 34 (by unfold tB tA; omega) (by decide)]; exact p2, fun j hj => hasP_e (p3 j hj) (fun b => q 62 b (by unfold tB tA; omega) (by decide))⟩, ⟨by rw [q 42 35 (by unfold tB tA; omega) (by decide)]; exact s1, fun k hk => by rw [q 67 k (by unfold tB tA; omega) (by decide), q 68 k (by unfold tB tA; omega) (by decide), q 69 k (by unfold tB tA; omega) (by decide)]; exact s2 k hk⟩, fun i hi => ?_⟩, ⟨r1, r2, by rw [q 45 1 (by unfold tB tA; omega) (by decide)]; exact r3, by rw [q 45 2 (by unfold tB tA; omega) (by decide)]; exact r4, fun j hj => ?_, fun j hj => ?_⟩, by rw [q 42 48 (by unfold tB tA; omega) (by decide)]; exact h48, ?_, ⟨Nat.zero_le _, by rw [v42 15 (by decide)]; exact h15, fun j hj => absurd hj (Nat.not_lt_zero j)⟩, v24⟩
    · show (mw_p (mw_p t 42 24 (nI p)) 54 0 (t.1 54 0 + nI 1)).1 54 i = sti A.1.2.2.2.2 0 i
      have e54 : ∀ b, t.1 54 b = s.1 54 b := fun b => hU.2 54 b (by unfold tB tA; omega)
      unfold sti
      by_cases q0 : i = 0
      · subst q0
        rw [mw_peq, if_pos rfl, e54 0, m3 0 (by decide)]
      · rw [mw_pnj q0, if_neg q0, mw_pne (by decide), e54 i]
        exact m3 i hi
    · have hj : j < A.2.1.2.1 := hj
      rw [q 52 j (by unfold tB tA; omega) (by decide)]; exact r5 j hj
    · have hj : j < A.2.1.2.2.2 := hj
      rw [q 53 j (by unfold tB tA; omega) (by decide)]; exact r6 j hj
    · intro b hb
      obtain ⟨i1, i2, i3, i4, i5, i6, i7⟩ := hI b hb
      exact ⟨hasP_e i1 (fun b => q 73 b (by unfold tB tA; omega) (by decide)), i2, by rw [q 42 49 (by unfold tB tA; omega) (by decide)]; exact i3, fun j hj => hasP_e (i4 j hj) (fun b => q 74 b (by unfold tB tA; omega) (by decide)), by rw [q 42 50 (by unfold tB tA; omega) (by decide)]; exact i5, fun k hk => by rw [q 75 k (by unfold tB tA; omega) (by decide), q 76 k (by unfold tB tA; omega) (by decide), q 77 k (by unfold tB tA; omega) (by decide)]; exact i6 k hk, fun i hi => by rw [q 78 i (by unfold tB tA; omega) (by decide)]; exact i7 i hi⟩
  refine ⟨mp v A.1.1, ?_, MI_of (A := noA A p) hMX, by rw [mp_42 (by decide), v42 2 (by decide)]; exact h2, ?_, fun c hc => ?_⟩
  · rw [b196_130, if_pos i3, if_pos i3, c0, e1, mp_42 (by decide), v42 22 (by decide), h22]
  · show t.2 = s.2
    exact hU.1
  · funext b
    rw [mp_px (by omega), q c b (by unfold tB tA; omega) (by omega)]
end
