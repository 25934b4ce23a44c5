/-! feed, image, restore -/
section
variable {X : mj_X} {A : AS} {x1 x2 x3 x4 x5 : Int32} {s t : mw_S}
theorem BA_e {k : Nat} {b : Bk} (h : BA s k b.1 b.2.1 b.2.2.1 b.2.2.2.1 b.2.2.2.2) (e : ∀ c, k ≤ c → c ≤ k + 7 → t.1 c = s.1 c) : BA t k b.1 b.2.1 b.2.2.1 b.2.2.2.1 b.2.2.2.2 := by
  unfold BA BP BS mr_is at h ⊢
  rw [e k (by omega) (by omega), e (k + 2) (by omega) (by omega), e (k + 3) (by omega) (by omega), e (k + 4) (by omega) (by omega), e (k + 5) (by omega) (by omega), e (k + 6) (by omega) (by omega), e (k + 7) (by omega) (by omega)]
  exact h
theorem rC_e {Q : rQ} (h : rC s 18 Q) (e : t.1 18 = s.1 18) (e2 : t.1 19 = s.1 19) : rC t 18 Q := by
  unfold rC at h ⊢
  rw [e, e2]; exact h
theorem JC_feed (hA : gd A) : JC X 142 195 [.int x1, .int x2, .int x3, .int x4, .int x5] k0 A := by
  by_cases q : A.2.2.2.2.1 + 20 ≤ 700
  · refine Or.inl ⟨nI (A.2.2.2.2.1 + 20), (A.1, A.2.1, A.2.2.1, tpf A.2.2.2.1 A.2.2.2.2.1 (fby x1 x2 x3 x4 x5) 20, A.2.2.2.2.1 + 20, A.2.2.2.2.2), ⟨hA.1, hA.2.1, hA.2.2.1, ?_, hA.2.2.2.2⟩, ?_, ?_⟩
    · intro j hj
      show tpf A.2.2.2.1 A.2.2.2.2.1 (fby x1 x2 x3 x4 x5) 20 j < 256
      have hj : j < A.2.2.2.2.1 + 20 := hj
      unfold tpf
      by_cases c : A.2.2.2.2.1 ≤ j ∧ j < A.2.2.2.2.1 + 20
      · rw [if_pos c]; exact ub_lt _
      · rw [if_neg c]; exact hA.2.2.2.1 j (by omega)
    · intro D s hD hI
      obtain ⟨d, rfl⟩ : ∃ d, D = d + 10 := ⟨D - 10, by omega⟩
      obtain ⟨i1, i2, i3, i4, i5, i6⟩ := hI
      obtain ⟨t, e, h1, h2, h3, h4⟩ := q142 (X := X) (d := d + 9) (x1 := x1) (x2 := x2) (x3 := x3) (x4 := x4) (x5 := x5) i5 q
      refine ⟨t, e, ⟨BA_e i1 (fun c k1 k2 => h3 c (by omega) (by omega)), rC_e i2 (h3 18 (by decide) (by decide)) (h3 19 (by decide) (by decide)), by rw [h4 11 (by decide)]; exact i3, fun b hb => BA_e (i4 b hb) (fun c k1 k2 => h3 c (by omega) (by omega)), h1, by rw [h4 10 (by decide)]; exact i6⟩, by rw [h2], by rw [h2], fun c hc => h3 c (by omega) (by omega)⟩
    · intro D s hD hI
      obtain ⟨d, rfl⟩ : ∃ d, D = d + 10 := ⟨D - 10, by omega⟩
      obtain ⟨hm, hX⟩ := hI
      obtain ⟨t, e, h1, h2, h3, h4, h5⟩ := m195 (X := X) (d := d + 10) (f := A.1.1) (x1 := x1) (x2 := x2) (x3 := x3) (x4 := x4) (x5 := x5) hX.2.2.2.2.1 q
      rw [hm] at e
      have hX' : MX t (A.1, A.2.1, A.2.2.1, tpf A.2.2.2.1 A.2.2.2.2.1 (fby x1 x2 x3 x4 x5) 20, A.2.2.2.2.1 + 20, A.2.2.2.2.2) := by
        obtain ⟨⟨⟨p1, p2, p3⟩, ⟨s1, s2⟩, m3⟩, ⟨r1, r2, r3, r4, r5, r6⟩, h48, hII, -, h24⟩ := hX
        refine ⟨⟨⟨p1, by rw [h5 34 (by decide) (by decide)]; exact p2, fun j hj => hasP_e (p3 j hj) (fun b => by rw [h4 62 (by decide) (by decide)])⟩, ⟨by rw [h5 35 (by decide) (by decide)]; exact s1, fun k hk => by rw [h4 67 (by decide) (by decide), h4 68 (by decide) (by decide), h4 69 (by decide) (by decide)]; exact s2 k hk⟩, fun i hi => by rw [h4 54 (by decide) (by decide)]; exact m3 i hi⟩, ⟨r1, r2, by rw [h4 45 (by decide) (by decide)]; exact r3, by rw [h4 45 (by decide) (by decide)]; exact r4, fun j hj => by rw [h4 52 (by decide) (by decide)]; exact r5 j hj, fun j hj => by rw [h4 53 (by decide) (by decide)]; exact r6 j hj⟩, by rw [h5 48 (by decide) (by decide)]; exact h48, ?_, h1, by rw [h5 24 (by decide) (by decide)]; exact h24⟩
        intro b hb
        obtain ⟨i1, i2, i3, i4, i5, i6, i7⟩ := hII b hb
        exact ⟨hasP_e i1 (fun b => by rw [h4 73 (by decide) (by decide)]), i2, by rw [h5 49 (by decide) (by decide)]; exact i3, fun j hj => hasP_e (i4 j hj) (fun b => by rw [h4 74 (by decide) (by decide)]), by rw [h5 50 (by decide) (by decide)]; exact i5, fun k hk => by rw [h4 75 (by decide) (by decide), h4 76 (by decide) (by decide), h4 77 (by decide) (by decide)]; exact i6 k hk, fun i hi => by rw [h4 78 (by decide) (by decide)]; exact i7 i hi⟩
      refine ⟨_, e, MI_of (A := (A.1, A.2.1, A.2.2.1, tpf A.2.2.2.1 A.2.2.2.2.1 (fby x1 x2 x3 x4 x5) 20, A.2.2.2.2.1 + 20, A.2.2.2.2.2)) hX', by rw [mp_42 (by decide)]; exact h2, ?_⟩
      have := rU_mp (s := s) (t := t) (f := A.1.1) (g := A.1.1) h3.symm (fun c hc => h4 c (by omega) (by omega))
      rw [hm] at this
      exact this
  · exact Or.inl ⟨-1, A, hA, CSv_s (fun d s hI => n142 hI.2.2.2.2.1 q), RSv_2 (fun d s hX => n195 hX.2.2.2.2.1 q)⟩
theorem JC_image (hA : gd A) : JCv X 161 306 A := by
  refine ⟨(A.1, A.2.1, some A.1, A.2.2.2), ⟨hA.1, hA.2.1, fun b hb => ?_, hA.2.2.2⟩, ?_, ?_⟩
  · have hb : some A.1 = some b := hb
    cases hb
    exact ⟨hA.1, sst_refl⟩
  · intro D s hD hI
    obtain ⟨d, rfl⟩ : ∃ d, D = d + 10 := ⟨D - 10, by omega⟩
    obtain ⟨i1, i2, i3, i4, i5, i6⟩ := hI
    obtain ⟨t, e, h1, h2, h3, h4, h5⟩ := q161 (X := X) (d := d + 8) i1 hA.1.2.2.1
    refine ⟨t, e, ⟨BA_e i1 (fun c k1 k2 => h5 c (by omega) (by omega)), rC_e i2 (h5 18 (by decide) (by omega)) (h5 19 (by decide) (by omega)), h2, fun b hb => ?_, ?_, by rw [h4 10 (by decide)]; exact i6⟩, by rw [h3], by rw [h3], fun c hc => h5 c (by omega) (by omega)⟩
    · have hb : some A.1 = some b := hb
      cases hb
      exact h1
    · obtain ⟨c1, c2, c3⟩ := i5
      exact ⟨c1, by rw [h4 9 (by decide)]; exact c2, fun j hj => by rw [h5 1 (by decide) (by omega)]; exact c3 j hj⟩
  · intro D s hD hI
    obtain ⟨d, rfl⟩ : ∃ d, D = d + 10 := ⟨D - 10, by omega⟩
    obtain ⟨hm, hX⟩ := hI
    obtain ⟨t, e, h1, h2, h3, h4, h5, h6, h7⟩ := m306 (X := X) (d := d + 8) (f := A.1.1) hX.1 hA.1.2.2.1.1
    rw [hm] at e
    have hX' : MX t (A.1, A.2.1, some A.1, A.2.2.2) := by
      obtain ⟨-, ⟨r1, r2, r3, r4, r5, r6⟩, h48, hII, ⟨t1, t2, t3⟩, h24⟩ := hX
      have e45 := h6 45 (by decide) (by unfold m73; omega)
      refine ⟨h2, ⟨r1, r2, by rw [e45]; exact r3, by rw [e45]; exact r4, fun j hj => by rw [h6 52 (by decide) (by unfold m73; omega)]; exact r5 j hj, fun j hj => by rw [h6 53 (by decide) (by unfold m73; omega)]; exact r6 j hj⟩, h3, fun b hb => ?_, ⟨t1, by rw [h7 15 (by decide) (by decide) (by decide) (by decide)]; exact t2, fun j hj => by rw [h6 56 (by decide) (by unfold m73; omega)]; exact t3 j hj⟩, by rw [h7 24 (by decide) (by decide) (by decide) (by decide)]; exact h24⟩
      have hb : some A.1 = some b := hb
      cases hb
      exact h1
    refine ⟨_, e, MI_of (A := (A.1, A.2.1, some A.1, A.2.2.2)) hX', by rw [mp_42 (by decide)]; exact h4, ?_⟩
    have := rU_mp (s := s) (t := t) (f := A.1.1) (g := A.1.1) h5.symm (fun c hc => h6 c (by omega) (by unfold m73; omega))
    rw [hm] at this
    exact this
theorem JC_restore (hA : gd A) : JC X 162 308 [] k0 A := by
  cases hb : A.2.2.1 with
  | none =>
    refine Or.inl ⟨nI 0, A, hA, CSv_s (fun d s hI => ?_), RSv_2 (fun d s hX => ?_)⟩
    · have h := hI.2.2.1
      rw [hb] at h
      exact n162 h
    · have h := hX.2.2.1
      rw [hb] at h
      exact n308 h
  | some b =>
    obtain ⟨g1, g2⟩ := hA.2.2.1 b hb
    refine Or.inl ⟨nI 1, (b, A.2), ⟨g1, hA.2.1, fun b' hb' => ?_, hA.2.2.2⟩, CSv_b (b := b) (fun d s hI => ?_), RSv_b (b := b) (fun d s hX => ?_)⟩
    · have hb' : A.2.2.1 = some b' := hb'
      rw [hb] at hb'
      cases hb'
      exact ⟨g1, sst_refl⟩
    · have h := hI.2.2.1
      rw [hb] at h
      obtain ⟨t, e, h1, h2, h3⟩ := q162 (X := X) (d := d + 8) h (hI.2.2.2.1 b hb) g1.2.2.1
      exact ⟨t, e, h1, by rw [h2], fun a _ => by rw [h2], fun c _ hc => h3 c hc⟩
    · have h := hX.2.2.1
      rw [hb] at h
      exact m308 (hX.2.2.2.1 b hb) g1.2.2.1.1 h g2
end
