/-! rules: how an EXPR is reckoned; what HEATS and CUTS do in a week -/
/-- t: a NUMBER below 10000; 10000 + j a VALUE; 10010 not, 10011 and, 10012 or, 10013 <, 10014 =, 10015 +, 10016 -, 10017 *, 10018 / -/
def rc (t : Nat) : Int32 := if t < 10000 then nI t else if t < 10006 then nI (t - 10000) - nI 6 else -(nI (t - 10003))
def rj (t : Nat) (a b : Int32) : Int32 :=
  if t = 10011 then (if a = 0 then nI 0 else if b = 0 then nI 0 else nI 1)
  else if t = 10012 then (if a = 0 then (if b = 0 then nI 0 else nI 1) else nI 1)
  else if t = 10013 then (if b ≤ a then nI 0 else nI 1)
  else if t = 10014 then (if a = b then nI 1 else nI 0)
  else if t = 10015 then a + b
  else if t = 10016 then a - b
  else if t = 10017 then a * b
  else (if b = 0 then nI 0 else a / b)
def rs (v : Nat → Int32) (t : Nat) (st : List Int32) : List Int32 :=
  if t < 10000 then nI t :: st
  else if t < 10006 then v (t - 10000) :: st
  else if t = 10010 then (match st with
    | x :: r => (if x = 0 then nI 1 else nI 0) :: r
    | [] => [])
  else (match st with
    | b :: a :: r => rj t a b :: r
    | r => r)
def rst (v : Nat → Int32) (c : Nat → Nat) : Nat → List Int32
  | 0 => []
  | n + 1 => rs v (c n) (rst v c n)
def rv (v : Nat → Int32) (c : Nat → Nat) (n : Nat) : Int32 := (rst v c n).headD (nI 0)
def rh1 (t h : Nat) : Option Nat := if t < 10006 then (if h < 40 then some (h + 1) else none) else if t = 10010 then (if 1 ≤ h then some h else none) else if 10011 ≤ t ∧ t ≤ 10018 ∧ 2 ≤ h then some (h - 1) else none
def rh (c : Nat → Nat) : Nat → Option Nat
  | 0 => some 0
  | n + 1 => (rh c n).bind (rh1 (c n))
theorem rh_le {c : Nat → Nat} : ∀ {n m h : Nat}, rh c n = some h → m ≤ n → ∃ h', rh c m = some h'
  | 0, m, h, e, hm => ⟨0, by rw [show m = 0 by omega]; rfl⟩
  | n + 1, m, h, e, hm => by
    by_cases hmn : m = n + 1
    · exact ⟨h, hmn ▸ e⟩
    · rw [rh] at e
      cases e2 : rh c n with
      | none => rw [e2] at e; cases e
      | some h2 => exact rh_le e2 (by omega)
theorem rst_len {v : Nat → Int32} {c : Nat → Nat} : ∀ {n h : Nat}, rh c n = some h → (rst v c n).length = h
  | 0, h, e => by cases e; rfl
  | n + 1, h, e => by
    rw [rh] at e
    cases e2 : rh c n with
    | none => rw [e2] at e; cases e
    | some h2 =>
      rw [e2] at e
      have hl := rst_len (v := v) e2
      rw [Option.bind_some] at e
      unfold rh1 at e
      rw [rst]
      unfold rs
      split at e
      · next h6 =>
        split at e
        · cases e
          split
          · rw [List.length_cons, hl]
          · rw [List.length_cons, hl]
        · cases e
      · next h6 =>
        rw [if_neg (by omega), if_neg h6]
        split at e
        · next hn =>
          rw [if_pos hn]
          split at e
          · next h1 =>
            cases e
            cases hr : rst v c n with
            | nil => rw [hr] at hl; simp only [List.length_nil] at hl; omega
            | cons x r => rw [hr] at hl; simp only [List.length_cons] at hl ⊢; exact hl
          · cases e
        · next hn =>
          rw [if_neg hn]
          split at e
          · next h1 =>
            cases e
            cases hr : rst v c n with
            | nil => rw [hr] at hl; simp only [List.length_nil] at hl; omega
            | cons x r => cases r with
              | nil => rw [hr] at hl; simp only [List.length_nil, List.length_cons] at hl; omega
              | cons y r => rw [hr] at hl; simp only [List.length_cons] at hl ⊢; omega
          · cases e
theorem rh_40 {c : Nat → Nat} : ∀ {n h : Nat}, rh c n = some h → h ≤ 40
  | 0, h, e => by cases e; decide
  | n + 1, h, e => by
    rw [rh] at e
    cases e2 : rh c n with
    | none => rw [e2] at e; cases e
    | some h2 =>
      have := rh_40 e2
      rw [e2, Option.bind_some] at e
      unfold rh1 at e
      split at e
      · split at e
        · cases e; omega
        · cases e
      · split at e
        · split at e
          · cases e; omega
          · cases e
        · split at e
          · cases e; omega
          · cases e
/-- two memories that differ in the cells P alone -/
def mg (s t : mw_S) (P : Nat → Prop) : Prop := t.2 = s.2 ∧ ∀ a, ¬ P a → t.1 a = s.1 a
theorem mg_refl {s : mw_S} {P : Nat → Prop} : mg s s P := ⟨rfl, fun _ _ => rfl⟩
theorem mg_trans {s t u : mw_S} {P : Nat → Prop} (h : mg s t P) (h2 : mg t u P) : mg s u P := ⟨h2.1.trans h.1, fun a ha => (h2.2 a ha).trans (h.2 a ha)⟩
theorem mg_mono {s t : mw_S} {P Q : Nat → Prop} (h : mg s t P) (hq : ∀ a, P a → Q a) : mg s t Q := ⟨h.1, fun a ha => h.2 a (fun z => ha (hq a z))⟩
theorem mg_p {s t : mw_S} {P : Nat → Prop} {k j : Nat} {v : Int32} (h : mg s t P) (hk : P k) : mg s (mw_p t k j v) P := ⟨h.1, fun a ha => by
  rw [← h.2 a ha]
  funext b
  exact if_neg (fun (z : a = k ∧ b = j) => ha (z.1 ▸ hk))⟩
theorem mg_set {s t : mw_S} {P : Nat → Prop} {k n : Nat} {f : Nat → Nat} (h : mg s t P) (hk : P k) : mg s (mr_set t k n f) P := ⟨h.1, fun a ha => by
  rw [← h.2 a ha]
  funext b
  exact if_neg (fun (z : a = k ∧ b < n) => ha (z.1 ▸ hk))⟩
theorem mr_forg {α γ ρ : Type} {E : Nat → α → γ → ρ} {F : Nat → α → α} {I : Nat → α → γ → Prop} {N : Nat} (h : ∀ i a g, i < N → I i a g → ∃ g', I (i + 1) (F i a) g' ∧ E i a g = E (i + 1) (F i a) g') {a : α} {g : γ} (h0 : I 0 a g) : ∀ n, n ≤ N → ∃ g', I n (mr_it F n a) g' ∧ E 0 a g = E n (mr_it F n a) g'
  | 0, _ => ⟨g, h0, rfl⟩
  | n + 1, hn => by
    obtain ⟨g1, h1, e1⟩ := mr_forg h h0 n (by omega)
    obtain ⟨g2, h2, e2⟩ := h n _ g1 (by omega) h1
    exact ⟨g2, h2, e1.trans e2⟩
section
variable {X : mj_X} {d : Nat}
theorem c118 {t : Nat} {a b : Int32} {w : mw_S} (h1 : 10011 ≤ t) (h2 : t ≤ 10018) : mj_call X d 118 [.int (rc t), .int a, .int b] (mw_U w) = some (.inl (some (.int (rj t a b))), mw_U w) := by
  have hc : t = 10011 ∨ t = 10012 ∨ t = 10013 ∨ t = 10014 ∨ t = 10015 ∨ t = 10016 ∨ t = 10017 ∨ t = 10018 := by omega
  rw [b118, b118_0]
  rcases hc with rfl | rfl | rfl | rfl | rfl | rfl | rfl | rfl
  · rw [show rc 10011 = -8 by decide, mw_tl_at (t := mj_exec X d 118 44 [some (.int (-8)), some (.int a), some (.int b)] [] (mw_U w)) (by decide) rfl]
    unfold rj
    by_cases ha : a = 0 <;> by_cases hb : b = 0 <;> simp only [b118, b118_0, b118_44, b118_48, b118_52, b118_56, b118_57, b118_58, b118_62, b118_66, b118_70, b118_71, b118_72, b118_77, b118_81, b118_82, b118_83, b118_88, b118_92, b118_93, b118_94, b118_98, b118_102, b118_106, b118_110, b118_114, b118_117, if_pos, if_neg, ha, hb, if_true, if_false]
  · rw [show rc 10012 = -9 by decide, mw_tl_at (t := mj_exec X d 118 58 [some (.int (-9)), some (.int a), some (.int b)] [] (mw_U w)) (by decide) rfl]
    unfold rj
    by_cases ha : a = 0 <;> by_cases hb : b = 0 <;> simp [b118, b118_0, b118_44, b118_48, b118_52, b118_56, b118_57, b118_58, b118_62, b118_66, b118_70, b118_71, b118_72, b118_77, b118_81, b118_82, b118_83, b118_88, b118_92, b118_93, b118_94, b118_98, b118_102, b118_106, b118_110, b118_114, b118_117, ha, hb]
  · rw [show rc 10013 = -10 by decide, mw_tl_at (t := mj_exec X d 118 72 [some (.int (-10)), some (.int a), some (.int b)] [] (mw_U w)) (by decide) rfl]
    unfold rj
    by_cases ha : b ≤ a <;> simp [b118, b118_0, b118_44, b118_48, b118_52, b118_56, b118_57, b118_58, b118_62, b118_66, b118_70, b118_71, b118_72, b118_77, b118_81, b118_82, b118_83, b118_88, b118_92, b118_93, b118_94, b118_98, b118_102, b118_106, b118_110, b118_114, b118_117, ha]
  · rw [show rc 10014 = -11 by decide, mw_tl_at (t := mj_exec X d 118 83 [some (.int (-11)), some (.int a), some (.int b)] [] (mw_U w)) (by decide) rfl]
    unfold rj
    by_cases ha : a = b <;> simp [b118, b118_0, b118_44, b118_48, b118_52, b118_56, b118_57, b118_58, b118_62, b118_66, b118_70, b118_71, b118_72, b118_77, b118_81, b118_82, b118_83, b118_88, b118_92, b118_93, b118_94, b118_98, b118_102, b118_106, b118_110, b118_114, b118_117, ha]
  · rw [show rc 10015 = -12 by decide, mw_tl_at (t := mj_exec X d 118 94 [some (.int (-12)), some (.int a), some (.int b)] [] (mw_U w)) (by decide) rfl]
    rw [b118_94]; rfl
  · rw [show rc 10016 = -13 by decide, mw_tl_at (t := mj_exec X d 118 98 [some (.int (-13)), some (.int a), some (.int b)] [] (mw_U w)) (by decide) rfl]
    rw [b118_98]; rfl
  · rw [show rc 10017 = -14 by decide, mw_tl_at (t := mj_exec X d 118 102 [some (.int (-14)), some (.int a), some (.int b)] [] (mw_U w)) (by decide) rfl]
    rw [b118_102]; rfl
  · rw [show rc 10018 = -15 by decide, mw_tl_lt (by decide)]
    unfold rj
    by_cases hb : b = 0
    · simp [b118, b118_0, b118_44, b118_48, b118_52, b118_56, b118_57, b118_58, b118_62, b118_66, b118_70, b118_71, b118_72, b118_77, b118_81, b118_82, b118_83, b118_88, b118_92, b118_93, b118_94, b118_98, b118_102, b118_106, b118_110, b118_114, b118_117, hb]
    · have hz : mw_nz b = true := decide_eq_true hb
      simp [b118, b118_0, b118_44, b118_48, b118_52, b118_56, b118_57, b118_58, b118_62, b118_66, b118_70, b118_71, b118_72, b118_77, b118_81, b118_82, b118_83, b118_88, b118_92, b118_93, b118_94, b118_98, b118_102, b118_106, b118_110, b118_114, b118_117, hb, hz]
end
