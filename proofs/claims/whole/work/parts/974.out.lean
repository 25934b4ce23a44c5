/-! calls: how they end -/
def CSv (X : mj_X) (z : Nat) (ar : List Value) (A : AS) (v : Option Value) (A' : AS) : Prop := ∀ d s, 100 ≤ d → CI s A → ∃ t, mj_call X d z (.ref 0 :: ar) (mw_U s) = some (.inl v, mw_U t) ∧ CI t A' ∧ cU s t
def CSx (X : mj_X) (z : Nat) (ar : List Value) (A : AS) (e : Nat) : Prop := ∀ d s, 100 ≤ d → CI s A → mj_call X d z (.ref 0 :: ar) (mw_U s) = some (.inr e, mw_U (mw_x s))
def RSv (X : mj_X) (z : Nat) (ar : List Value) (A : AS) (v : Option Value) (A' : AS) : Prop := ∀ d s, 100 ≤ d → MI s A → ∃ t, mj_call X d z (.ref 42 :: ar) (mw_U s) = some (.inl v, mw_U t) ∧ MI t A' ∧ t.1 42 2 = nI 0 ∧ rU s t
def RSx (X : mj_X) (z : Nat) (ar : List Value) (A : AS) (k : Nat) : Prop := ∀ d s, 100 ≤ d → MI s A → ∃ t, mj_call X d z (.ref 42 :: ar) (mw_U s) = some (.inl (some (.int (nI 0))), mw_U t) ∧ MI t A ∧ t.1 42 2 = nI k ∧ rU s t
def JCv (X : mj_X) (zc zr : Nat) (A : AS) : Prop := ∃ A', gd A' ∧ CSv X zc [] A none A' ∧ RSv X zr [] A none A'
def JC (X : mj_X) (zc zr : Nat) (ar : List Value) (κ : List (Nat × Nat)) (A : AS) : Prop := (∃ a A', gd A' ∧ CSv X zc ar A (some (.int a)) A' ∧ RSv X zr ar A (some (.int a)) A') ∨ (∃ e k, (e, k) ∈ κ ∧ CSx X zc ar A e ∧ RSx X zr ar A k)
section
variable {X : mj_X} {z : Nat} {ar : List Value} {A : AS} {v : Option Value} {b : Bk} {s t : mw_S}
theorem CI_kg (h : CI s A) (hg : kg s t) : CI t A ∧ cU s t := by
  have e : ∀ c, ¬ kM c → t.1 c = s.1 c := hg.2.2
  refine ⟨⟨BA_kg (Or.inl rfl) h.1 hg, rC_kg h.2.1 hg, by rw [e 0 (by unfold kM; omega)]; exact h.2.2.1, fun b hb => BA_kg (Or.inr rfl) (h.2.2.2.1 b hb) hg, ?_, by rw [e 0 (by unfold kM; omega)]; exact h.2.2.2.2.2⟩, hg.1, hg.2.1 79 (by decide), fun c hc => e c (by unfold kM; omega)⟩
  obtain ⟨c1, c2, c3⟩ := h.2.2.2.2.1
  exact ⟨c1, by rw [e 0 (by unfold kM; omega)]; exact c2, fun j hj => by rw [e 1 (by unfold kM; omega)]; exact c3 j hj⟩
theorem CI_kb (h : CI s A) (hB : BA t 2 b.1 b.2.1 b.2.2.1 b.2.2.2.1 b.2.2.2.2) (hg : kb s t) : CI t (b, A.2) ∧ cU s t := by
  have e : ∀ c, ¬ kM c → c < 2 ∨ 9 < c → t.1 c = s.1 c := hg.2.2
  have e0 := e 0 (by unfold kM; omega) (by omega)
  refine ⟨⟨hB, ?_, by rw [e0]; exact h.2.2.1, fun b hb => ?_, ?_, by rw [e0]; exact h.2.2.2.2.2⟩, hg.1, hg.2.1 79 (by decide), fun c hc => e c (by unfold kM; omega) (by omega)⟩
  · have h2 := h.2.1
    unfold rC at h2 ⊢
    rw [e 18 (by unfold kM; omega) (by omega), e 19 (by unfold kM; omega) (by omega)]
    exact h2
  · have h2 := h.2.2.2.1 b hb
    unfold BA BP BS mr_is at h2 ⊢
    rw [e 10 (by unfold kM; omega) (by omega), e 12 (by unfold kM; omega) (by omega), e 13 (by unfold kM; omega) (by omega), e 14 (by unfold kM; omega) (by omega), e 15 (by unfold kM; omega) (by omega), e 16 (by unfold kM; omega) (by omega), e 17 (by unfold kM; omega) (by omega)]
    exact h2
  · obtain ⟨c1, c2, c3⟩ := h.2.2.2.2.1
    exact ⟨c1, by rw [e0]; exact c2, fun j hj => by rw [e 1 (by unfold kM; omega) (by omega)]; exact c3 j hj⟩
theorem CSv_g (h : ∀ d s, CI s A → ∃ t, mj_call X (d + 10) z (.ref 0 :: ar) (mw_U s) = some (.inl v, mw_U t) ∧ kg s t) : CSv X z ar A v A := by
  intro D s hD hI
  obtain ⟨d, rfl⟩ : ∃ d, D = d + 10 := ⟨D - 10, by omega⟩
  obtain ⟨t, e, hg⟩ := h d s hI
  exact ⟨t, e, CI_kg hI hg⟩
theorem CSv_s (h : ∀ d s, CI s A → mj_call X (d + 10) z (.ref 0 :: ar) (mw_U s) = some (.inl v, mw_U s)) : CSv X z ar A v A := CSv_g (fun d s hI => ⟨s, h d s hI, kg_refl⟩)
theorem CSx_ {e : Nat} (h : ∀ d s, CI s A → mj_call X (d + 10) z (.ref 0 :: ar) (mw_U s) = some (.inr e, mw_U (mw_x s))) : CSx X z ar A e := by
  intro D s hD hI
  obtain ⟨d, rfl⟩ : ∃ d, D = d + 10 := ⟨D - 10, by omega⟩
  exact h d s hI
theorem CSv_b (h : ∀ d s, CI s A → ∃ t, mj_call X (d + 10) z (.ref 0 :: ar) (mw_U s) = some (.inl v, mw_U t) ∧ BA t 2 b.1 b.2.1 b.2.2.1 b.2.2.2.1 b.2.2.2.2 ∧ kb s t) : CSv X z ar A v (b, A.2) := by
  intro D s hD hI
  obtain ⟨d, rfl⟩ : ∃ d, D = d + 10 := ⟨D - 10, by omega⟩
  obtain ⟨t, e, hB, hg⟩ := h d s hI
  exact ⟨t, e, CI_kb hI hB hg⟩
theorem MX_mh (h : MX s A) (hg : mh s t) : MX t A := MX_fr h (fun a c hc => by
  by_cases q : a = 42
  · subst q
    exact hg.2.2 c (by omega) (by omega) (by omega)
  · rw [hg.2.1 a (by unfold gM; omega) q])
theorem MX_mb (h : MX s A) (hM : MA t b.2.1 b.2.2.1 b.2.2.2.1 b.2.2.2.2) (hg : mb s t) : MX t (b, A.2) := by
  have e : ∀ a c, (52 ≤ a ∧ a ≤ 53) ∨ a = 56 ∨ (73 ≤ a ∧ a ≤ 78) ∨ (a = 42 ∧ (c = 15 ∨ c = 24 ∨ (48 ≤ c ∧ c ≤ 50))) ∨ (a = 45 ∧ (c = 1 ∨ c = 2)) → t.1 a c = s.1 a c := fun a c hc => by
    by_cases q : a = 42
    · subst q
      exact hg.2.2 c (by omega) (by omega) (by omega) (by omega) (by omega)
    · rw [hg.2.1 a (by unfold gM; omega) q (by omega) (by omega) (by omega) (by omega) (by omega)]
  obtain ⟨-, ⟨r1, r2, r3, r4, r5, r6⟩, h48, hI, ⟨t1, t2, t3⟩, h24⟩ := h
  refine ⟨hM, ⟨r1, r2, by rw [e 45 1 (by omega)]; exact r3, by rw [e 45 2 (by omega)]; exact r4, fun j hj => by rw [e 52 j (by omega)]; exact r5 j hj, fun j hj => by rw [e 53 j (by omega)]; exact r6 j hj⟩, by rw [e 42 48 (by omega)]; exact h48, ?_, ⟨t1, by rw [e 42 15 (by omega)]; exact t2, fun j hj => by rw [e 56 j (by omega)]; exact t3 j hj⟩, by rw [e 42 24 (by omega)]; exact h24⟩
  intro b hb
  obtain ⟨i1, i2, i3, i4, i5, i6, i7⟩ := hI b hb
  exact ⟨hasP_e i1 (fun b => e 73 b (by omega)), i2, by rw [e 42 49 (by omega)]; exact i3, fun j hj => hasP_e (i4 j hj) (fun b => e 74 b (by omega)), by rw [e 42 50 (by omega)]; exact i5, fun k hk => by rw [e 75 k (by omega), e 76 k (by omega), e 77 k (by omega)]; exact i6 k hk, fun i hi => by rw [e 78 i (by omega)]; exact i7 i hi⟩
theorem RSv_h (h : ∀ d s, MX s A → ∃ t, mj_call X (d + 10) z (.ref 42 :: ar) (mw_U (mp s A.1.1)) = some (.inl v, mw_U (mp t A.1.1)) ∧ t.1 42 2 = nI 0 ∧ mh s t) : RSv X z ar A v A := by
  intro D s hD hI
  obtain ⟨d, rfl⟩ : ∃ d, D = d + 10 := ⟨D - 10, by omega⟩
  obtain ⟨t, e, h2, hg⟩ := h d s hI.2
  rw [hI.1] at e
  refine ⟨_, e, MI_of (MX_mh hI.2 hg), by rw [mp_42 (by decide)]; exact h2, ?_⟩
  have := rU_mp (f := A.1.1) (g := A.1.1) hg.1.symm (fun c hc => hg.2.1 c (by unfold gM; omega) (by omega))
  rw [hI.1] at this
  exact this
theorem RSv_2 (h : ∀ d s, MX s A → mj_call X (d + 10) z (.ref 42 :: ar) (mw_U (mp s A.1.1)) = some (.inl v, mw_U (mp (mw_p s 42 2 (nI 0)) A.1.1))) : RSv X z ar A v A := RSv_h (fun d s hX => ⟨_, h d s hX, mw_peq, mh_p2 (Or.inl rfl)⟩)
theorem RSx_ {k : Nat} (h : ∀ d s, MX s A → mj_call X (d + 10) z (.ref 42 :: ar) (mw_U (mp s A.1.1)) = some (.inl (some (.int (nI 0))), mw_U (mp (mw_p s 42 2 (nI k)) A.1.1))) : RSx X z ar A k := by
  intro D s hD hI
  obtain ⟨d, rfl⟩ : ∃ d, D = d + 10 := ⟨D - 10, by omega⟩
  have e := h d s hI.2
  have hg : mh s (mw_p s 42 2 (nI k)) := mh_p2 (Or.inl rfl)
  rw [hI.1] at e
  refine ⟨_, e, MI_of (MX_mh hI.2 hg), by rw [mp_42 (by decide)]; exact mw_peq, ?_⟩
  have := rU_mp (f := A.1.1) (g := A.1.1) hg.1.symm (fun c hc => hg.2.1 c (by unfold gM; omega) (by omega))
  rw [hI.1] at this
  exact this
theorem RSv_b (h : ∀ d s, MX s A → ∃ t, mj_call X (d + 10) z (.ref 42 :: ar) (mw_U (mp s A.1.1)) = some (.inl v, mw_U (mp t b.1)) ∧ MA t b.2.1 b.2.2.1 b.2.2.2.1 b.2.2.2.2 ∧ t.1 42 2 = nI 0 ∧ mb s t) : RSv X z ar A v (b, A.2) := by
  intro D s hD hI
  obtain ⟨d, rfl⟩ : ∃ d, D = d + 10 := ⟨D - 10, by omega⟩
  obtain ⟨t, e, hM, h2, hg⟩ := h d s hI.2
  rw [hI.1] at e
  refine ⟨_, e, MI_of (A := (b, A.2)) (MX_mb hI.2 hM hg), by rw [mp_42 (by decide)]; exact h2, ?_⟩
  have := rU_mp (f := A.1.1) (g := b.1) hg.1.symm (fun c hc => hg.2.1 c (by unfold gM; omega) (by omega) (by omega) (by omega) (by omega) (by omega) (by omega))
  rw [hI.1] at this
  exact this
end
