/-! tokens -/
def isL (c : Nat) : Bool := decide (97 ≤ c ∧ c ≤ 122)
def isD (c : Nat) : Bool := decide (48 ≤ c ∧ c ≤ 57)
def isS (c : Nat) : Bool := decide (c = 32 ∨ c = 10)
def isK (c : Nat) : Bool := decide (c = 59 ∨ c = 40 ∨ c = 41 ∨ c = 43 ∨ c = 45 ∨ c = 42 ∨ c = 47 ∨ c = 60 ∨ c = 61)
def scn (P : Nat → Bool) (tp : Nat → Nat) (n : Nat) : Nat → Nat → Nat
  | 0, a => a
  | k + 1, a => if a < n ∧ P (tp a) = true then scn P tp n k (a + 1) else a
def sc (P : Nat → Bool) (tp : Nat → Nat) (n a : Nat) : Nat := scn P tp n (n - a) a
section
variable {P : Nat → Bool} {tp : Nat → Nat} {n a : Nat}
theorem sc_s (h : a < n) (hP : P (tp a) = true) : sc P tp n a = sc P tp n (a + 1) := by
  unfold sc
  rw [show n - a = n - (a + 1) + 1 by omega, scn, if_pos ⟨h, hP⟩]
theorem sc_e (h : ¬ (a < n ∧ P (tp a) = true)) : sc P tp n a = a := by
  unfold sc
  cases n - a with
  | zero => rfl
  | succ k => rw [scn, if_neg h]
theorem sc_ind {C : Nat → Nat → Prop} (h0 : ∀ a, ¬ (a < n ∧ P (tp a) = true) → C a a) (h1 : ∀ a r, a < n → P (tp a) = true → C (a + 1) r → C a r) : ∀ k a, n - a = k → C a (sc P tp n a)
  | 0, a, hk => by
    have hn : ¬ (a < n ∧ P (tp a) = true) := fun z => by omega
    rw [sc_e hn]; exact h0 a hn
  | k + 1, a, hk => by
    by_cases h : a < n ∧ P (tp a) = true
    · rw [sc_s h.1 h.2]
      exact h1 a _ h.1 h.2 (sc_ind h0 h1 k (a + 1) (by omega))
    · rw [sc_e h]; exact h0 a h
theorem sc_ge : a ≤ sc P tp n a := sc_ind (C := fun a r => a ≤ r) (fun a _ => Nat.le_refl a) (fun a r _ _ h => by omega) _ a rfl
theorem sc_le (h : a ≤ n) : sc P tp n a ≤ n := by
  have := sc_ind (P := P) (tp := tp) (n := n) (C := fun a r => a ≤ n → r ≤ n) (fun a _ h => h) (fun a r h1 _ h _ => h (by omega)) _ a rfl
  exact this h
theorem sc_all : ∀ j, a ≤ j → j < sc P tp n a → P (tp j) = true := sc_ind (C := fun a r => ∀ j, a ≤ j → j < r → P (tp j) = true) (fun a _ j h1 h2 => by omega) (fun a r h1 h2 h j h3 h4 => by
  by_cases he : j = a
  · subst he; exact h2
  · exact h j (by omega) h4) _ a rfl
theorem sc_end (h : sc P tp n a < n) : P (tp (sc P tp n a)) = false := by
  have := sc_ind (P := P) (tp := tp) (n := n) (C := fun a r => ¬ (r < n ∧ P (tp r) = true)) (fun a h => h) (fun a r _ _ h => h) _ a rfl
  cases hp : P (tp (sc P tp n a))
  · rfl
  · exact absurd ⟨h, hp⟩ this
theorem mr_scan {γ ρ : Type} {E : Nat → γ → ρ} {I : Nat → γ → Prop} (h : ∀ a g, a < n → P (tp a) = true → I a g → ∃ g', I (a + 1) g' ∧ E a g = E (a + 1) g') {g : γ} (h0 : I a g) : ∃ g', I (sc P tp n a) g' ∧ E a g = E (sc P tp n a) g' := by
  have := sc_ind (P := P) (tp := tp) (n := n) (C := fun a r => ∀ g, I a g → ∃ g', I r g' ∧ E a g = E r g') (fun a _ g hg => ⟨g, hg, rfl⟩) (fun a r h1 h2 ih g hg => by
    obtain ⟨g1, i1, e1⟩ := h a g h1 h2 hg
    obtain ⟨g2, i2, e2⟩ := ih g1 i1
    exact ⟨g2, i2, e1.trans e2⟩) _ a rfl
  exact this g h0
end
def tb (tp : Nat → Nat) (n a : Nat) : Nat := sc isS tp n a
def tkd (tp : Nat → Nat) (n a : Nat) : Nat := if n ≤ tb tp n a then 0 else if isL (tp (tb tp n a)) then 1 else if isD (tp (tb tp n a)) then 2 else if isK (tp (tb tp n a)) then 3 else 4
def te (tp : Nat → Nat) (n a : Nat) : Nat := if tkd tp n a = 0 then tb tp n a else if tkd tp n a = 1 then sc isL tp n (tb tp n a) else if tkd tp n a = 2 then sc isD tp n (tb tp n a) else tb tp n a + 1
def dv (tp : Nat → Nat) (b k : Nat) : Nat := mr_it (fun i v => 10 * v + (tp (b + i) - 48)) k 0
def tW : List (List Nat) := [[104, 101, 97, 116], [110, 101, 114, 118, 101], [117, 110, 108, 105, 107, 101], [109, 97, 110, 121], [99, 117, 116], [119, 101, 101, 107], [111, 114], [97, 110, 100], [110, 111, 116], [112, 101, 114, 115, 111, 110], [108, 97, 119, 121, 101, 114], [119, 101, 100], [113, 117, 97, 114, 114, 101, 108], [104, 101, 97, 116, 115], [99, 117, 116, 115]]
def wlen (i : Nat) : Nat := (tW.getD i []).length
def wch (i k : Nat) : Nat := (tW.getD i []).getD k 0
def wq (tp : Nat → Nat) (b e i : Nat) : Bool := decide (e - b = wlen i ∧ ∀ k, k < wlen i → tp (b + k) = wch i k)
def wx (tp : Nat → Nat) (b e : Nat) : Nat := ((List.range 15).find? (wq tp b e)).getD 15
def kcl (tp : Nat → Nat) (n a : Nat) : Nat := if tkd tp n a = 0 then 0 else if tkd tp n a = 1 then 200 + wx tp (tb tp n a) (te tp n a) else if tkd tp n a = 2 then 2 else if tkd tp n a = 3 then tp (tb tp n a) else 1
theorem tb_ge {tp : Nat → Nat} {n a : Nat} : a ≤ tb tp n a := sc_ge
theorem tb_le {tp : Nat → Nat} {n a : Nat} (h : a ≤ n) : tb tp n a ≤ n := sc_le h
theorem tkd0 {tp : Nat → Nat} {n a : Nat} : tkd tp n a = 0 ↔ n ≤ tb tp n a := by
  unfold tkd
  constructor
  · intro h
    by_cases q : n ≤ tb tp n a
    · exact q
    · rw [if_neg q] at h
      split at h
      · omega
      · split at h
        · omega
        · split at h <;> omega
  · intro h; rw [if_pos h]
theorem te_le {tp : Nat → Nat} {n a : Nat} (h : a ≤ n) : te tp n a ≤ n := by
  unfold te
  have h1 := tb_le (tp := tp) h
  by_cases q : tkd tp n a = 0
  · rw [if_pos q]; exact h1
  · have q2 : ¬ n ≤ tb tp n a := fun z => q (tkd0.2 z)
    rw [if_neg q]
    split
    · exact sc_le h1
    · split
      · exact sc_le h1
      · omega
theorem te_gt {tp : Nat → Nat} {n a : Nat} (q : ¬ tkd tp n a = 0) : tb tp n a < te tp n a := by
  have q2 : ¬ n ≤ tb tp n a := fun z => q (tkd0.2 z)
  unfold te
  rw [if_neg q]
  by_cases q1 : tkd tp n a = 1
  · rw [if_pos q1]
    have hl : isL (tp (tb tp n a)) = true := by
      unfold tkd at q1
      rw [if_neg q2] at q1
      cases hh : isL (tp (tb tp n a))
      · rw [hh, if_neg (by decide)] at q1
        split at q1
        · omega
        · split at q1 <;> omega
      · rfl
    rw [sc_s (by omega) hl]
    have := sc_ge (P := isL) (tp := tp) (n := n) (a := tb tp n a + 1)
    omega
  · rw [if_neg q1]
    by_cases q3 : tkd tp n a = 2
    · rw [if_pos q3]
      have hl : isD (tp (tb tp n a)) = true := by
        unfold tkd at q3
        rw [if_neg q2] at q3
        cases hh : isD (tp (tb tp n a))
        · rw [hh] at q3
          split at q3
          · omega
          · split at q3
            · rename_i h; cases h
            · split at q3 <;> omega
        · rfl
      rw [sc_s (by omega) hl]
      have := sc_ge (P := isD) (tp := tp) (n := n) (a := tb tp n a + 1)
      omega
    · rw [if_neg q3]; omega
theorem sby_c : ∀ b, b < 256 → (sby b = nI 32 ↔ b = 32) ∧ (sby b = nI 10 ↔ b = 10) ∧ (isL b = true ↔ ¬ sby b < nI 97 ∧ ¬ nI 122 < sby b) ∧ (isD b = true ↔ ¬ sby b < nI 48 ∧ ¬ nI 57 < sby b) ∧ (isK b = true ↔ ((List.range 9).find? (fun j => decide (sch 2 j = b))).isSome = true) ∧ ((sby b &&& nI 255).toUInt32 % 65536).toInt32 = nI b ∧ (isD b = true → sby b = nI b) ∧ (isL b = true → sby b = nI b) := by decide +kernel
section
variable {X : mj_X} {d : Nat} {s t : mw_S} {tp : Nat → Nat} {n a : Nat}
/-- the class's tokens: ahead of a token, and at it -/
def PC (s : mw_S) (tp : Nat → Nat) (n a : Nat) : Prop := a ≤ n ∧ n ≤ 700 ∧ s.1 23 1 = nI n ∧ s.1 23 3 = nI a ∧ (∀ j, j < n → tp j < 256 ∧ s.1 24 j = sby (tp j))
def TC (s : mw_S) (tp : Nat → Nat) (n a : Nat) : Prop := a ≤ n ∧ n ≤ 700 ∧ s.1 23 1 = nI n ∧ s.1 23 2 = nI (tb tp n a) ∧ s.1 23 3 = nI (te tp n a) ∧ s.1 23 4 = nI (kcl tp n a) ∧ (tkd tp n a = 2 → s.1 23 5 = nI (min 9999 (dv tp (tb tp n a) (te tp n a - tb tp n a)))) ∧ (∀ j, j < n → tp j < 256 ∧ s.1 24 j = sby (tp j))
theorem TC_PC (h : TC s tp n a) : PC s tp n (te tp n a) := ⟨te_le h.1, h.2.1, h.2.2.1, h.2.2.2.2.1, h.2.2.2.2.2.2.2⟩
theorem c133 {b : Nat} (hb : b ≤ n) (hn : n ≤ 700) (h1 : s.1 23 1 = nI n) (h3 : s.1 23 3 = nI b) (ht : ∀ j, j < n → tp j < 256 ∧ s.1 24 j = sby (tp j)) : ∃ t, mj_call X d 133 [.ref 23] (mw_U s) = some (.inl none, mw_U t) ∧ mg s t (fun c => c = 23) ∧ t.1 23 1 = nI n ∧ t.1 23 2 = s.1 23 2 ∧ t.1 23 3 = nI (sc isD tp n b) ∧ t.1 23 4 = nI 2 ∧ t.1 23 5 = nI (min 9999 (dv tp b (sc isD tp n b - b))) := by
  obtain ⟨t, ⟨i1, i2, i3, i4, i5, i6⟩, e⟩ := mr_scan (P := isD) (tp := tp) (n := n) (a := b) (γ := mw_S) (E := fun _ t => mj_exec X d 133 5 [some (.ref 23)] [] (mw_U t)) (I := fun a t => b ≤ a ∧ mg s t (fun c => c = 23) ∧ t.1 23 1 = nI n ∧ t.1 23 2 = s.1 23 2 ∧ t.1 23 3 = nI a ∧ t.1 23 5 = nI (min 9999 (dv tp b (a - b)))) (by
    intro a t ha hP ⟨i1, i2, i3, i4, i5, i6⟩
    obtain ⟨t1, t2⟩ := ht a ha
    have q := sby_c (tp a) t1
    obtain ⟨q1, q2⟩ := q.2.2.2.1.1 hP
    have q3 := q.2.2.2.2.2.2.1 hP
    have hd : 48 ≤ tp a ∧ tp a ≤ 57 := of_decide_eq_true hP
    have e24 : t.1 24 a = sby (tp a) := by rw [i2.2 24 (by decide)]; exact t2
    have hm : min 9999 (dv tp b (a - b)) ≤ 9999 := Nat.min_le_left _ _
    have ed : dv tp b (a + 1 - b) = 10 * dv tp b (a - b) + (tp a - 48) := by
      rw [show a + 1 - b = (a - b) + 1 by omega]
      show 10 * dv tp b (a - b) + (tp (b + (a - b)) - 48) = _
      rw [show b + (a - b) = a by omega]
    have ev : mw_min (nI 9999) (nI 10 * nI (min 9999 (dv tp b (a - b))) + sby (tp a) - nI 48) = nI (min 9999 (dv tp b (a + 1 - b))) := by
      rw [q3, mn_mul, nI_add, mn_sub (by omega), mn_min (by omega) (by omega), ed]
      congr 1
      omega
    have e3' : ∀ v, (mw_p t 23 5 v).1 23 3 = nI a := fun v => by rw [mw_pnj (by decide)]; exact i5
    refine ⟨mw_p (mw_p t 23 5 (nI (min 9999 (dv tp b (a + 1 - b))))) 23 3 (nI (a + 1)), ⟨by omega, mg_p (mg_p i2 rfl) rfl, ?_, ?_, mw_peq, ?_⟩, ?_⟩
    · rw [mw_pnj (by decide), mw_pnj (by decide)]; exact i3
    · rw [mw_pnj (by decide), mw_pnj (by decide)]; exact i4
    · rw [mw_pnj (by decide), mw_peq]
    · have hle : ¬ nI n ≤ nI a := by rw [mn_le (by omega) (by omega)]; omega
      have hin : mw_in 700 (nI a) = true := by rw [mn_in (by omega)]; exact decide_eq_true (by omega)
      rw [b133_5, i3, i5, if_neg hle, b133_16, i5, if_pos hin, mn_clamp (by omega), e24, if_neg q1, b133_30, i5, if_pos hin, mn_clamp (by omega), e24, if_neg q2, b133_44, i5, if_pos hin, mn_clamp (by omega), e24, i6, ev, e3', nI_add]) (g := mw_p s 23 5 (nI 0)) ⟨Nat.le_refl _, mg_p mg_refl rfl, by rw [mw_pnj (by decide)]; exact h1, mw_pnj (by decide), by rw [mw_pnj (by decide)]; exact h3, by rw [mw_peq, Nat.sub_self]; rfl⟩
  have hle := sc_le (P := isD) (tp := tp) hb
  refine ⟨mw_p t 23 4 (nI 2), ?_, mg_p i2 rfl, ?_, ?_, ?_, mw_peq, ?_⟩
  · rw [b133, b133_0]
    refine e.trans ?_
    rw [b133_5, i3, i5]
    by_cases q : sc isD tp n b < n
    · have hno := sc_end q
      obtain ⟨t1, t2⟩ := ht _ q
      have e24 : t.1 24 (sc isD tp n b) = sby (tp (sc isD tp n b)) := by rw [i2.2 24 (by decide)]; exact t2
      have qq := (sby_c _ t1).2.2.2.1
      have hle' : ¬ nI n ≤ nI (sc isD tp n b) := by rw [mn_le (by omega) (by omega)]; omega
      have hin : mw_in 700 (nI (sc isD tp n b)) = true := by rw [mn_in (by omega)]; exact decide_eq_true (by omega)
      rw [if_neg hle', b133_16, i5, if_pos hin, mn_clamp (by omega), e24]
      by_cases q1 : sby (tp (sc isD tp n b)) < nI 48
      · rw [if_pos q1, b133_87]
      · have q2 : nI 57 < sby (tp (sc isD tp n b)) := Classical.byContradiction (fun z => by rw [qq.2 ⟨q1, z⟩] at hno; cases hno)
        rw [if_neg q1, b133_30, i5, if_pos hin, mn_clamp (by omega), e24, if_pos q2, b133_87]
    · have hle' : nI n ≤ nI (sc isD tp n b) := by rw [mn_le (by omega) (by omega)]; omega
      rw [if_pos hle', b133_87]
  · rw [mw_pnj (by decide)]; exact i3
  · rw [mw_pnj (by decide)]; exact i4
  · rw [mw_pnj (by decide)]; exact i5
  · rw [mw_pnj (by decide)]; exact i6
end
