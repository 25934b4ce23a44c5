/-! what holds between two calls, of the class and of the reference -/
abbrev Bk : Type := (Nat → Nat) × (Nat → Nat → Nat) × Nat × sS × (Nat → Int32)
abbrev AS : Type := Bk × rQ × Option Bk × (Nat → Nat) × Nat × Option Nat
def gdB (b : Bk) : Prop := wf b.1 (b.1 52) ∧ b.1 54 ≤ 999 ∧ sOK b.2.2.2.1 ∧ ∀ j, j < b.2.2.1 → wf (b.2.1 j) (b.2.1 j 52) ∧ b.2.1 j 54 ≤ 999 ∧ sst (b.2.1 j) b.1
def gd (A : AS) : Prop := gdB A.1 ∧ rOK A.2.1 ∧ (∀ b, A.2.2.1 = some b → gdB b ∧ sst b.1 A.1.1) ∧ (∀ j, j < A.2.2.2.2.1 → A.2.2.2.1 j < 256) ∧ ∀ p, A.2.2.2.2.2 = some p → p ≤ 700
def CI (s : mw_S) (A : AS) : Prop := BA s 2 A.1.1 A.1.2.1 A.1.2.2.1 A.1.2.2.2.1 A.1.2.2.2.2 ∧ rC s 18 A.2.1 ∧ s.1 0 11 = nI A.2.2.1.isSome.toNat ∧ (∀ b, A.2.2.1 = some b → BA s 10 b.1 b.2.1 b.2.2.1 b.2.2.2.1 b.2.2.2.2) ∧ CT s A.2.2.2.1 A.2.2.2.2.1 ∧ s.1 0 10 = mo A.2.2.2.2.2
/-- the reference's facts beside its picture -/
def MX (s : mw_S) (A : AS) : Prop := MA s A.1.2.1 A.1.2.2.1 A.1.2.2.2.1 A.1.2.2.2.2 ∧ rM s A.2.1 ∧ s.1 42 48 = nI A.2.2.1.isSome.toNat ∧ (∀ b, A.2.2.1 = some b → IM s b.1 b.2.1 b.2.2.1 b.2.2.2.1 b.2.2.2.2) ∧ RT s A.2.2.2.1 A.2.2.2.2.1 ∧ s.1 42 24 = mo A.2.2.2.2.2
def MI (s : mw_S) (A : AS) : Prop := mp s A.1.1 = s ∧ MX s A
/-- what a call of the class leaves alone; of the reference -/
def cU (s t : mw_S) : Prop := t.2.2 = s.2.2 ∧ t.2.1 79 = s.2.1 79 ∧ ∀ c, 42 ≤ c → t.1 c = s.1 c
def rU (s t : mw_S) : Prop := t.2 = s.2 ∧ ∀ c, c < 42 → t.1 c = s.1 c
section
variable {s t u : mw_S} {f : Nat → Nat} {A : AS}
theorem mp_px {a b : Nat} (h : a < 42 ∨ a = 43 ∨ a = 44 ∨ (47 ≤ a ∧ a ≤ 54) ∨ a = 56 ∨ 62 ≤ a ∨ (a = 42 ∧ ¬ b = 32 ∧ ¬ b = 33) ∨ (a = 45 ∧ ¬ b = 0)) : (mp s f).1 a b = s.1 a b := by
  rcases (show ((¬ a = 59 ∧ ¬ a = 60 ∧ ¬ a = 61 ∧ ¬ a = 57 ∧ ¬ a = 58 ∧ ¬ a = 55 ∧ ¬ a = 42 ∧ ¬ a = 45 ∧ ¬ a = 46)) ∨ (a = 42 ∧ ¬ b = 32 ∧ ¬ b = 33) ∨ (a = 45 ∧ ¬ b = 0) by omega) with h' | ⟨rfl, h'⟩ | ⟨rfl, h'⟩
  · exact mp_o h'
  · exact mp_42 h'
  · exact mp_45 h'
theorem mp_mp : mp (mp s f) f = mp s f := by
  refine mw_ext (fun a b => ?_) rfl
  unfold mp mq
  show (if a = 59 ∧ b < 64 then _ else _) = (if a = 59 ∧ b < 64 then _ else _)
  by_cases c0 : a = 59 ∧ b < 64
  · rw [if_pos c0, if_pos c0]
  rw [if_neg c0, if_neg c0]
  by_cases c1 : a = 60 ∧ b < 64
  · rw [if_pos c1, if_pos c1]
  rw [if_neg c1, if_neg c1]
  by_cases c2 : a = 61 ∧ b < 64
  · rw [if_pos c2, if_pos c2]
  rw [if_neg c2, if_neg c2]
  by_cases c3 : a = 57 ∧ b < 8
  · rw [if_pos c3, if_pos c3]
  rw [if_neg c3, if_neg c3]
  by_cases c4 : a = 58 ∧ b < 8
  · rw [if_pos c4, if_pos c4]
  rw [if_neg c4, if_neg c4]
  by_cases c5 : a = 55 ∧ b < 8
  · rw [if_pos c5, if_pos c5]
  rw [if_neg c5, if_neg c5]
  by_cases c6 : a = 42 ∧ b = 32
  · rw [if_pos c6, if_pos c6]
  rw [if_neg c6, if_neg c6]
  by_cases c7 : a = 42 ∧ b = 33
  · rw [if_pos c7, if_pos c7]
  rw [if_neg c7, if_neg c7]
  by_cases c8 : a = 45 ∧ b = 0
  · rw [if_pos c8, if_pos c8]
  rw [if_neg c8, if_neg c8]
  by_cases c9 : a = 46 ∧ b < f 55
  · rw [if_pos c9, if_pos c9]
  rw [if_neg c9, if_neg c9]
  show (if a = 59 ∧ b < 64 then _ else _) = _
  rw [if_neg c0, if_neg c1, if_neg c2, if_neg c3, if_neg c4, if_neg c5, if_neg c6, if_neg c7, if_neg c8, if_neg c9]
theorem hasP_e {K off : Nat} {D : Nat → Prop} (h : hasP s K off f D) (e : ∀ b, t.1 K b = s.1 K b) : hasP t K off f D := fun j hj hD => by rw [e]; exact h j hj hD
/-- the facts, read off other cells alike -/
theorem MX_fr (h : MX s A) (e : ∀ a b, (52 ≤ a ∧ a ≤ 54) ∨ a = 56 ∨ a = 62 ∨ (67 ≤ a ∧ a ≤ 69) ∨ (73 ≤ a ∧ a ≤ 78) ∨ (a = 42 ∧ (b = 15 ∨ b = 24 ∨ b = 34 ∨ b = 35 ∨ (48 ≤ b ∧ b ≤ 50))) ∨ (a = 45 ∧ (b = 1 ∨ b = 2)) → t.1 a b = s.1 a b) : MX t A := by
  obtain ⟨⟨⟨p1, p2, p3⟩, ⟨s1, s2⟩, m3⟩, ⟨r1, r2, r3, r4, r5, r6⟩, h48, hI, ⟨t1, t2, t3⟩, h24⟩ := h
  refine ⟨⟨⟨p1, by rw [e 42 34 (by omega)]; exact p2, fun j hj => hasP_e (p3 j hj) (fun b => e 62 b (by omega))⟩, ⟨by rw [e 42 35 (by omega)]; exact s1, fun k hk => by rw [e 67 k (by omega), e 68 k (by omega), e 69 k (by omega)]; exact s2 k hk⟩, fun i hi => by rw [e 54 i (by omega)]; exact m3 i hi⟩, ⟨r1, r2, by rw [e 45 1 (by omega)]; exact r3, by rw [e 45 2 (by omega)]; exact r4, fun j hj => by rw [e 52 j (by omega)]; exact r5 j hj, fun j hj => by rw [e 53 j (by omega)]; exact r6 j hj⟩, by rw [e 42 48 (by omega)]; exact h48, ?_, ⟨t1, by rw [e 42 15 (by omega)]; exact t2, fun j hj => by rw [e 56 j (by omega)]; exact t3 j hj⟩, by rw [e 42 24 (by omega)]; exact h24⟩
  intro b hb
  obtain ⟨i1, i2, i3, i4, i5, i6, i7⟩ := hI b hb
  exact ⟨hasP_e i1 (fun b => e 73 b (by omega)), i2, by rw [e 42 49 (by omega)]; exact i3, fun j hj => hasP_e (i4 j hj) (fun b => e 74 b (by omega)), by rw [e 42 50 (by omega)]; exact i5, fun k hk => by rw [e 75 k (by omega), e 76 k (by omega), e 77 k (by omega)]; exact i6 k hk, fun i hi => by rw [e 78 i (by omega)]; exact i7 i hi⟩
theorem MI_of (h : MX s A) : MI (mp s A.1.1) A := ⟨mp_mp, MX_fr h (fun a b h => mp_px (by omega))⟩
theorem MI_c (h : MI s A) (hc : cU s t) : MI t A := by
  refine ⟨?_, MX_fr h.2 (fun a b hh => by rw [hc.2.2 a (by omega)])⟩
  refine mw_ext (fun a b => ?_) rfl
  by_cases q : 42 ≤ a
  · have e : (mp s A.1.1).1 a b = s.1 a b := congrArg (fun z : mw_S => z.1 a b) h.1
    unfold mp mq at e ⊢
    simp only [hc.2.2 a q] at e ⊢
    exact e
  · exact mp_px (by omega)
theorem CI_r (h : CI s A) (hr : rU s t) : CI t A := by
  have e : ∀ c, c < 42 → t.1 c = s.1 c := hr.2
  unfold CI BA BP BS rC CT mr_is at h ⊢
  simp only [e 0 (by decide), e 1 (by decide), e 2 (by decide), e 10 (by decide), e 18 (by decide), Nat.reduceAdd, e 4 (by decide), e 5 (by decide), e 6 (by decide), e 7 (by decide), e 8 (by decide), e 9 (by decide), e 19 (by decide), e 12 (by decide), e 13 (by decide), e 14 (by decide), e 15 (by decide), e 16 (by decide), e 17 (by decide)] at h ⊢
  exact h
theorem rU_mp {g : Nat → Nat} (h : s.2 = t.2) (h2 : ∀ c, c < 42 → t.1 c = s.1 c) : rU (mp s f) (mp t g) := ⟨h.symm, fun c hc => by
  funext b
  rw [mp_px (by omega), mp_px (by omega), h2 c hc]⟩
theorem cU_x : t = mw_x s → t.1 = s.1 := fun h => by rw [h]; rfl
end
