/-! a step of the law: what both calls give -/
def ZZ (s t : mw_S) (A' : AS) : Prop := CI t A' ∧ MI t A' ∧ gd A' ∧ t.2.2.1 ≤ s.2.2.1 + 1 ∧ t.2.2.2 ≤ s.2.2.2 + 6
section
variable {X : mj_X} {d i : Nat} {s t : mw_S} {A : AS} {zc zr zw : Nat} {ar aw : List Value} {κ : List (Nat × Nat)}
theorem lg_self (x : Int64) : lg_cmp x x = 0 := by
  unfold lg_cmp
  simp
theorem MI_1 (h : MI s A) (e : t.1 = s.1) : MI t A := by
  refine ⟨?_, MX_fr h.2 (fun a b _ => by rw [e])⟩
  refine mw_ext (fun a b => ?_) rfl
  have h1 : (mp s A.1.1).1 a b = s.1 a b := congrArg (fun z : mw_S => z.1 a b) h.1
  unfold mp mq at h1 ⊢
  simp only [e] at h1 ⊢
  exact h1
theorem CI_1 (h : CI s A) (e : t.1 = s.1) : CI t A := by
  unfold CI BA BP BS rC CT mr_is at h ⊢
  rw [e]
  exact h
theorem hin_ok (hi : i + 6 ≤ X.1) (hX : X.1 ≤ 3072) {j : Nat} (hj : j ≤ 5) : mw_in X.1 (nI i + nI j) = true := by
  rw [nI_add, mn_in (by omega)]
  exact decide_eq_true (by omega)
theorem run_w {φ : Int32 → Int64} (h : JC X zc zr ar κ A) (hC : CI s A) (hM : MI s A) (hA : gd A) (hd : 100 ≤ d)
    (wv : ∀ s t v, mj_call X d zc (.ref 0 :: ar) (mw_U s) = some (.inl (some (.int v)), mw_U t) → mj_call X (d + 1) zw aw (mw_U s) = some (.inl (some (.int (nI 0))), mw_U (mw_pl t 79 0 (φ v))))
    (wx : ∀ s t e k, (e, k) ∈ κ → mj_call X d zc (.ref 0 :: ar) (mw_U s) = some (.inr e, mw_U t) → mj_call X (d + 1) zw aw (mw_U s) = some (.inl (some (.int (nI k))), mw_U t))
    (hk : ∀ e k, (e, k) ∈ κ → 0 < k ∧ k < 10) :
    ∃ k b t1 t2 A', mj_call X (d + 1) zw aw (mw_U s) = some (.inl (some (.int (nI k))), mw_U t1) ∧ mj_call X (d + 1) zr (.ref 42 :: ar) (mw_U t1) = some (.inl (some (.int b)), mw_U t2) ∧ t2.1 42 2 = nI k ∧ k < 10 ∧ (k = 0 → t2.2.1 79 0 = φ b) ∧ ZZ s t2 A' := by
  rcases h with ⟨a, A', g, hc, hr⟩ | ⟨e, k, hm, hc, hr⟩
  · obtain ⟨t, e1, c1, u1⟩ := hc d s hd hC
    obtain ⟨t2, e2, m2, h0, r2⟩ := hr (d + 1) (mw_pl t 79 0 (φ a)) (by omega) (MI_1 (MI_c hM u1) rfl)
    have hcnt : t2.2.2 = s.2.2 := by
      rw [r2.1]
      exact u1.1
    refine ⟨0, a, _, t2, A', wv s t a e1, e2, h0, by decide, fun _ => ?_, CI_r (CI_1 (t := mw_pl t 79 0 (φ a)) c1 rfl) r2, m2, g, by rw [hcnt]; omega, by rw [hcnt]; omega⟩
    rw [r2.1]
    show (if 79 = 79 ∧ 0 = 0 then φ a else t.2.1 79 0) = φ a
    exact if_pos ⟨rfl, rfl⟩
  · have e1 := hc d s hd hC
    obtain ⟨t2, e2, m2, h0, r2⟩ := hr (d + 1) (mw_x s) (by omega) (MI_1 hM rfl)
    obtain ⟨k1, k2⟩ := hk e k hm
    refine ⟨k, nI 0, _, t2, A, wx s _ e k hm e1, e2, h0, k2, fun z => by omega, CI_r (CI_1 (t := mw_x s) hC rfl) r2, m2, hA, ?_, ?_⟩
    · rw [r2.1]; exact Nat.le_refl _
    · rw [r2.1]; exact Nat.le_refl _
theorem run_d (h : JC X zc zr ar [] A) (hC : CI s A) (hM : MI s A) (hd : 100 ≤ d) : ∃ b t1 t2 A', mj_call X d zc (.ref 0 :: ar) (mw_U s) = some (.inl (some (.int b)), mw_U t1) ∧ mj_call X d zr (.ref 42 :: ar) (mw_U t1) = some (.inl (some (.int b)), mw_U t2) ∧ ZZ s t2 A' := by
  rcases h with ⟨a, A', g, hc, hr⟩ | ⟨e, k, hm, -, -⟩
  · obtain ⟨t, e1, c1, u1⟩ := hc d s hd hC
    obtain ⟨t2, e2, m2, h0, r2⟩ := hr d t hd (MI_c hM u1)
    have hcnt : t2.2.2 = s.2.2 := by
      rw [r2.1]
      exact u1.1
    exact ⟨a, t, t2, A', e1, e2, CI_r c1 r2, m2, g, by rw [hcnt]; omega, by rw [hcnt]; omega⟩
  · cases hm
theorem run_n (h : JCv X zc zr A) (hC : CI s A) (hM : MI s A) (hd : 100 ≤ d) : ∃ t1 t2 A', mj_call X d zc [.ref 0] (mw_U s) = some (.inl none, mw_U t1) ∧ mj_call X d zr [.ref 42] (mw_U t1) = some (.inl none, mw_U t2) ∧ ZZ s t2 A' := by
  obtain ⟨A', g, hc, hr⟩ := h
  obtain ⟨t, e1, c1, u1⟩ := hc d s hd hC
  obtain ⟨t2, e2, m2, h0, r2⟩ := hr d t hd (MI_c hM u1)
  have hcnt : t2.2.2 = s.2.2 := by
    rw [r2.1]
    exact u1.1
  exact ⟨t, t2, A', e1, e2, CI_r c1 r2, m2, g, by rw [hcnt]; omega, by rw [hcnt]; omega⟩
end
