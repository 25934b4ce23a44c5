/-! camps: both come to the same parts -/
def msq (f : Nat → Nat) (q : Nat) (x : Nat × Nat) : Nat × Nat := (x.1 ||| (if (x.2 ||| (if x.1.testBit q then f (56 + q) else 0)).testBit q then f (56 + q) else 0), x.2 ||| (if x.1.testBit q then f (56 + q) else 0))
def mstep (f : Nat → Nat) (n : Nat) (x : Nat × Nat) : Nat × Nat := mr_it (msq f) n x
def mpass (f : Nat → Nat) (n p : Nat) (x : Nat × Nat) : Nat × Nat := if (f 52).testBit p = true ∧ (x.1 ||| x.2).testBit p = false then mr_it (fun _ x => mstep f n x) 8 (x.1 ||| 2 ^ p, x.2) else x
def sb (a b : Nat) : Prop := ∀ i, a.testBit i = true → b.testBit i = true
def le2 (x y : Nat × Nat) : Prop := sb x.1 y.1 ∧ sb x.2 y.2
def clo (f : Nat → Nat) (x : Nat × Nat) : Prop := ∀ q, q < 8 → (x.1.testBit q = true → sb (f (56 + q)) x.2) ∧ (x.2.testBit q = true → sb (f (56 + q)) x.1)
theorem sb_or {a b c : Nat} : sb (a ||| b) c ↔ sb a c ∧ sb b c := by
  constructor
  · intro h
    exact ⟨fun i hi => h i (by rw [Nat.testBit_or, hi]; rfl), fun i hi => h i (by rw [Nat.testBit_or, hi, Bool.or_true])⟩
  · rintro ⟨h1, h2⟩ i hi
    rw [Nat.testBit_or, Bool.or_eq_true] at hi
    rcases hi with h | h
    · exact h1 i h
    · exact h2 i h
theorem sb_l {a b : Nat} : sb a (a ||| b) := fun i hi => by rw [Nat.testBit_or, hi]; rfl
theorem sb_anti {a b : Nat} (h1 : sb a b) (h2 : sb b a) : a = b := d_eq (fun i => by
  rw [Bool.eq_iff_iff]; exact ⟨h1 i, h2 i⟩)
theorem sb_or_eq {a b : Nat} : a ||| b = a ↔ sb b a := by
  constructor
  · intro h i hi; rw [← h, Nat.testBit_or, hi, Bool.or_true]
  · intro h; exact sb_anti (sb_or.mpr ⟨fun _ h => h, h⟩) sb_l
theorem le2_refl {x : Nat × Nat} : le2 x x := ⟨fun _ h => h, fun _ h => h⟩
theorem le2_trans {x y z : Nat × Nat} (h1 : le2 x y) (h2 : le2 y z) : le2 x z := ⟨fun i h => h2.1 i (h1.1 i h), fun i h => h2.2 i (h1.2 i h)⟩
theorem le2_anti {x y : Nat × Nat} (h1 : le2 x y) (h2 : le2 y x) : x = y := Prod.ext (sb_anti h1.1 h2.1) (sb_anti h1.2 h2.2)
theorem sb_0 {a : Nat} : sb 0 a := fun i h => by rw [Nat.zero_testBit] at h; cases h
section
variable {f : Nat → Nat} {L : Nat}
theorem sb_ta {a b : Nat} (h : ∀ q, q < 8 → a.testBit q = true → sb (f (56 + q)) b) : sb (fn_ta f a) b := by
  intro i hi
  obtain ⟨p, hp, hg, hb⟩ := ta_bit.mp hi
  exact h p hp hg i hb
theorem ta_sb {a b : Nat} (h : sb (fn_ta f a) b) {q : Nat} (hq : q < 8) (ha : a.testBit q = true) : sb (f (56 + q)) b := fun i hi => h i (ta_bit.mpr ⟨q, hq, ha, hi⟩)
theorem ta_mono {a b : Nat} (h : sb a b) : sb (fn_ta f a) (fn_ta f b) := sb_ta (fun q hq ha i hi => ta_bit.mpr ⟨q, hq, h q ha, hi⟩)
theorem cs_up {x : Nat × Nat} : le2 x (cstep f x) := ⟨sb_l, sb_l⟩
theorem cs_le {x y : Nat × Nat} (hc : clo f y) (h : le2 x y) : le2 (cstep f x) y := by
  have h2 : sb (x.2 ||| fn_ta f x.1) y.2 := sb_or.mpr ⟨h.2, sb_ta (fun q hq ha => (hc q hq).1 (h.1 q ha))⟩
  exact ⟨sb_or.mpr ⟨h.1, sb_ta (fun q hq ha => (hc q hq).2 (h2 q ha))⟩, h2⟩
theorem cs_fix {x : Nat × Nat} (h : cstep f x = x) : clo f x := by
  have e2 : x.2 ||| fn_ta f x.1 = x.2 := congrArg Prod.snd h
  have e1 : x.1 ||| fn_ta f (x.2 ||| fn_ta f x.1) = x.1 := congrArg Prod.fst h
  rw [e2] at e1
  intro q hq
  exact ⟨fun ha => ta_sb (sb_or_eq.mp e2) hq ha, fun ha => ta_sb (sb_or_eq.mp e1) hq ha⟩
theorem ms1_up {x : Nat × Nat} {q : Nat} : le2 x (msq f q x) := ⟨sb_l, sb_l⟩
theorem ms1_le {x y : Nat × Nat} {q : Nat} (hq : q < 8) (hc : clo f y) (h : le2 x y) : le2 (msq f q x) y := by
  have h2 : sb (x.2 ||| (if x.1.testBit q then f (56 + q) else 0)) y.2 := by
    refine sb_or.mpr ⟨h.2, ?_⟩
    split
    · next ha => exact (hc q hq).1 (h.1 q ha)
    · exact sb_0
  refine ⟨sb_or.mpr ⟨h.1, ?_⟩, h2⟩
  by_cases ha : (x.2 ||| (if x.1.testBit q then f (56 + q) else 0)).testBit q = true
  · rw [if_pos ha]; exact (hc q hq).2 (h2 q ha)
  · rw [if_neg ha]; exact sb_0
theorem ms_up {x : Nat × Nat} : ∀ n, le2 x (mr_it (msq f) n x)
  | 0 => le2_refl
  | n + 1 => le2_trans (ms_up n) ms1_up
theorem ms_le {n : Nat} (hn : n ≤ 8) {x y : Nat × Nat} (hc : clo f y) (h : le2 x y) : le2 (mstep f n x) y := mr_it_inv (I := fun _ x => le2 x y) h (fun i a hi ha => ms1_le (by omega) hc ha)
theorem ms_each {x : Nat × Nat} : ∀ {n}, mr_it (msq f) n x = x → ∀ q, q < n → msq f q x = x
  | 0, _, q, hq => by omega
  | n + 1, h, q, hq => by
    have h1 : le2 x (mr_it (msq f) n x) := ms_up n
    have h2 : le2 (mr_it (msq f) n x) (mr_it (msq f) (n + 1) x) := ms1_up
    rw [h] at h2
    have e : mr_it (msq f) n x = x := le2_anti h2 h1
    by_cases he : q = n
    · subst he
      have : msq f q (mr_it (msq f) q x) = x := h
      rwa [e] at this
    · exact ms_each e q (by omega)
theorem ms_fix (hw : wf f L) {x : Nat × Nat} (h : mstep f (f 55) x = x) : clo f x := by
  intro q hq
  by_cases hn : q < f 55
  · have e := ms_each h q hn
    have e2 : x.2 ||| (if x.1.testBit q then f (56 + q) else 0) = x.2 := congrArg Prod.snd e
    have e1 : x.1 ||| (if (x.2 ||| (if x.1.testBit q then f (56 + q) else 0)).testBit q then f (56 + q) else 0) = x.1 := congrArg Prod.fst e
    rw [e2] at e1
    refine ⟨fun ha => ?_, fun ha => ?_⟩
    · rw [if_pos ha] at e2; exact sb_or_eq.mp e2
    · rw [if_pos ha] at e1; exact sb_or_eq.mp e1
  · rw [ties_0 hw hq (by omega)]
    exact ⟨fun _ => sb_0, fun _ => sb_0⟩
end
theorem cnt_mono {a b : Nat} (h : sb a b) : ∀ n, mr_it (fun i c => c + (a.testBit i).toNat) n 0 ≤ mr_it (fun i c => c + (b.testBit i).toNat) n 0
  | 0 => Nat.le_refl _
  | n + 1 => by
    rw [mr_it, mr_it]
    have := cnt_mono h n
    have : (a.testBit n).toNat ≤ (b.testBit n).toNat := by
      cases ha : a.testBit n
      · simp
      · rw [h n ha]; exact Nat.le_refl _
    omega
theorem cnt_strict {a b i : Nat} (h : sb a b) (h1 : a.testBit i = false) (h2 : b.testBit i = true) : ∀ n, i < n → mr_it (fun i c => c + (a.testBit i).toNat) n 0 < mr_it (fun i c => c + (b.testBit i).toNat) n 0
  | 0, hn => by omega
  | n + 1, hn => by
    rw [mr_it, mr_it]
    by_cases he : i = n
    · subst he
      have := cnt_mono h i
      rw [h1, h2]
      simp only [Bool.toNat_false, Bool.toNat_true]
      omega
    · have := cnt_strict h h1 h2 n (by omega)
      have : (a.testBit n).toNat ≤ (b.testBit n).toNat := by
        cases ha : a.testBit n
        · simp
        · rw [h n ha]; exact Nat.le_refl _
      omega
theorem cnt_lt {a b : Nat} (hb : b < 256) (h : sb a b) (hne : ¬ a = b) : fn_cnt a < fn_cnt b := by
  have : ∃ i, i < 10 ∧ a.testBit i = false ∧ b.testBit i = true := by
    apply Classical.byContradiction
    intro hno
    apply hne
    refine sb_anti h ?_
    intro i hi
    cases ha : a.testBit i
    · have : i < 8 := bit_lt (n := 8) hb hi
      exact absurd ⟨i, by omega, ha, hi⟩ hno
    · rfl
  obtain ⟨i, hi, h1, h2⟩ := this
  exact cnt_strict h h1 h2 10 hi
theorem cnt_le {a b : Nat} (h : sb a b) : fn_cnt a ≤ fn_cnt b := cnt_mono h 10
theorem cnt_dis {a b : Nat} (hd : a &&& b = 0) : ∀ n, mr_it (fun i c => c + (a.testBit i).toNat) n 0 + mr_it (fun i c => c + (b.testBit i).toNat) n 0 ≤ n
  | 0 => Nat.le_refl _
  | n + 1 => by
    rw [mr_it, mr_it]
    have := cnt_dis hd n
    have : (a.testBit n).toNat + (b.testBit n).toNat ≤ 1 := by
      cases ha : a.testBit n
      · have := Bool.toNat_le (b.testBit n); simp; omega
      · rw [and_zero.mp hd n ha]; exact Nat.le_refl _
    omega
theorem cnt_d8 {a b : Nat} (ha : a < 256) (hb : b < 256) (hd : a &&& b = 0) : fn_cnt a + fn_cnt b ≤ 8 := by
  have e : ∀ c, c < 256 → fn_cnt c = mr_it (fun i k => k + (c.testBit i).toNat) 8 0 := fun c hc => mr_it_ext (F := fun i k => k + (c.testBit i).toNat) (n := 8) (m := 10) (by omega) (fun i k h1 h2 => by
    have : c.testBit i = false := Nat.testBit_lt_two_pow (Nat.lt_of_lt_of_le hc (Nat.pow_le_pow_right (n := 2) (by decide) h1))
    rw [this]; rfl)
  rw [e a ha, e b hb]
  exact cnt_dis hd 8
def cn2 (x : Nat × Nat) : Nat := fn_cnt x.1 + fn_cnt x.2
/-- eight steps close, or meet -/
theorem it8 {f : Nat → Nat} {G : Nat × Nat → Nat × Nat} (hup : ∀ x, le2 x (G x)) (hle : ∀ x y, clo f y → le2 x y → le2 (G x) y) (hfix : ∀ x, G x = x → clo f x) (hlt : ∀ x, x.1 < 256 ∧ x.2 < 256 → (G x).1 < 256 ∧ (G x).2 < 256) {x : Nat × Nat} (hx : x.1 < 256 ∧ x.2 < 256) : ∀ k, (mr_it (fun _ x => G x) k x).1 < 256 ∧ (mr_it (fun _ x => G x) k x).2 < 256 ∧ le2 x (mr_it (fun _ x => G x) k x) ∧ (clo f (mr_it (fun _ x => G x) k x) ∨ cn2 x + k ≤ cn2 (mr_it (fun _ x => G x) k x))
  | 0 => ⟨hx.1, hx.2, le2_refl, Or.inr (Nat.le_refl _)⟩
  | k + 1 => by
    obtain ⟨h1, h2, h3, h4⟩ := it8 hup hle hfix hlt hx k
    have h5 := hlt _ ⟨h1, h2⟩
    refine ⟨h5.1, h5.2, le2_trans h3 (hup _), ?_⟩
    show clo f (G (mr_it (fun _ x => G x) k x)) ∨ cn2 x + (k + 1) ≤ cn2 (G (mr_it (fun _ x => G x) k x))
    rcases h4 with h4 | h4
    · left
      have e : G (mr_it (fun _ x => G x) k x) = mr_it (fun _ x => G x) k x := le2_anti (hle _ _ h4 le2_refl) (hup _)
      rw [e]; exact h4
    · by_cases he : G (mr_it (fun _ x => G x) k x) = mr_it (fun _ x => G x) k x
      · left; rw [he]; exact hfix _ he
      · right
        have hu := hup (mr_it (fun _ x => G x) k x)
        have c1 := cnt_le hu.1
        have c2 := cnt_le hu.2
        have : cn2 (mr_it (fun _ x => G x) k x) < cn2 (G (mr_it (fun _ x => G x) k x)) := by
          unfold cn2
          by_cases e1 : (mr_it (fun _ x => G x) k x).1 = (G (mr_it (fun _ x => G x) k x)).1
          · have e2 : ¬ (mr_it (fun _ x => G x) k x).2 = (G (mr_it (fun _ x => G x) k x)).2 := fun z => he (Prod.ext e1 z).symm
            have := cnt_lt h5.2 hu.2 e2
            omega
          · have := cnt_lt h5.1 hu.1 e1
            omega
        omega
def dj (x : Nat × Nat) : Prop := x.1 &&& x.2 = 0
theorem dj_le {x y : Nat × Nat} (h : le2 x y) (hy : dj y) : dj x := and_zero.mpr (fun i hi => by
  have := and_zero.mp hy i (h.1 i hi)
  cases hb : x.2.testBit i
  · rfl
  · rw [h.2 i hb] at this; cases this)
section
variable {f : Nat → Nat} {L : Nat}
theorem msq_lt (hw : wf f L) {q : Nat} (hq : q < 8) {x : Nat × Nat} (h : x.1 < 256 ∧ x.2 < 256) : (msq f q x).1 < 256 ∧ (msq f q x).2 < 256 := by
  have ht := wf_t hw hq
  have hi : ∀ b : Bool, (if b = true then f (56 + q) else 0) < 256 := fun b => by split <;> omega
  exact ⟨or8 h.1 (hi _), or8 h.2 (hi _)⟩
theorem mstep_lt (hw : wf f L) {x : Nat × Nat} (h : x.1 < 256 ∧ x.2 < 256) : (mstep f (f 55) x).1 < 256 ∧ (mstep f (f 55) x).2 < 256 := mr_it_inv (I := fun _ (x : Nat × Nat) => x.1 < 256 ∧ x.2 < 256) h (fun i a hi ha => msq_lt hw (by have := wf_n hw; omega) ha)
theorem mpass_lt (hw : wf f L) {p : Nat} (hp : p < 8) {x : Nat × Nat} (h : x.1 < 256 ∧ x.2 < 256) : (mpass f (f 55) p x).1 < 256 ∧ (mpass f (f 55) p x).2 < 256 := by
  unfold mpass
  split
  · exact mr_it_inv (I := fun _ (x : Nat × Nat) => x.1 < 256 ∧ x.2 < 256) ⟨or8 h.1 (p8 hp), h.2⟩ (fun i a hi ha => mstep_lt hw ha)
  · exact h
theorem same8 (hw : wf f L) {x : Nat × Nat} (hx : x.1 < 256 ∧ x.2 < 256) (h1 : 1 ≤ cn2 x) : (dj (mr_it (fun _ x => cstep f x) 8 x) ↔ dj (mr_it (fun _ x => mstep f (f 55) x) 8 x)) ∧ (dj (mr_it (fun _ x => cstep f x) 8 x) → mr_it (fun _ x => cstep f x) 8 x = mr_it (fun _ x => mstep f (f 55) x) 8 x ∧ clo f (mr_it (fun _ x => cstep f x) 8 x)) := by
  have hn := wf_n hw
  obtain ⟨a1, a2, a3, a4⟩ := it8 (f := f) (G := cstep f) (fun _ => cs_up) (fun _ _ hc h => cs_le hc h) (fun _ h => cs_fix h) (fun _ h => cstep_lt hw h) hx 8
  obtain ⟨b1, b2, b3, b4⟩ := it8 (f := f) (G := mstep f (f 55)) (fun _ => ms_up _) (fun _ _ hc h => ms_le hn hc h) (fun _ h => ms_fix hw h) (fun _ h => mstep_lt hw h) hx 8
  have ac : dj (mr_it (fun _ x => cstep f x) 8 x) → clo f (mr_it (fun _ x => cstep f x) 8 x) := fun h => by
    rcases a4 with a4 | a4
    · exact a4
    · have := cnt_d8 a1 a2 h
      unfold cn2 at a4 h1
      omega
  have bc : dj (mr_it (fun _ x => mstep f (f 55) x) 8 x) → clo f (mr_it (fun _ x => mstep f (f 55) x) 8 x) := fun h => by
    rcases b4 with b4 | b4
    · exact b4
    · have := cnt_d8 b1 b2 h
      unfold cn2 at b4 h1
      omega
  have ab : clo f (mr_it (fun _ x => cstep f x) 8 x) → le2 (mr_it (fun _ x => mstep f (f 55) x) 8 x) (mr_it (fun _ x => cstep f x) 8 x) := fun h => mr_it_inv (I := fun _ y => le2 y (mr_it (fun _ x => cstep f x) 8 x)) a3 (fun i a hi ha => ms_le hn h ha)
  have ba : clo f (mr_it (fun _ x => mstep f (f 55) x) 8 x) → le2 (mr_it (fun _ x => cstep f x) 8 x) (mr_it (fun _ x => mstep f (f 55) x) 8 x) := fun h => mr_it_inv (I := fun _ y => le2 y (mr_it (fun _ x => mstep f (f 55) x) 8 x)) b3 (fun i a hi ha => cs_le h ha)
  refine ⟨⟨fun h => dj_le (ab (ac h)) h, fun h => dj_le (ba (bc h)) h⟩, fun h => ⟨?_, ac h⟩⟩
  have hm := dj_le (ab (ac h)) h
  exact le2_anti (ba (bc hm)) (ab (ac h))
def rel2 (f : Nat → Nat) (x y : Nat × Nat) : Prop := (¬ dj x ∧ ¬ dj y) ∨ (x = y ∧ dj x)
theorem cpass_up {x : Nat × Nat} {p : Nat} : le2 x (cpass f p x) := by
  unfold cpass
  split
  · exact mr_it_inv (I := fun _ y => le2 x y) ⟨sb_l, fun _ h => h⟩ (fun i a hi ha => le2_trans ha cs_up)
  · exact le2_refl
theorem mpass_up {x : Nat × Nat} {p n : Nat} : le2 x (mpass f n p x) := by
  unfold mpass
  split
  · exact mr_it_inv (I := fun _ y => le2 x y) ⟨sb_l, fun _ h => h⟩ (fun i a hi ha => le2_trans ha (ms_up _))
  · exact le2_refl
theorem pass_rel (hw : wf f L) {x y : Nat × Nat} {p : Nat} (hp : p < 8) (hx : x.1 < 256 ∧ x.2 < 256) (h : rel2 f x y) : rel2 f (cpass f p x) (mpass f (f 55) p y) := by
  rcases h with ⟨h1, h2⟩ | ⟨h1, h2⟩
  · exact Or.inl ⟨fun z => h1 (dj_le cpass_up z), fun z => h2 (dj_le mpass_up z)⟩
  · subst h1
    have hcond : (mn_d (f 52) (x.1 ||| x.2)).testBit p = true ↔ ((f 52).testBit p = true ∧ (x.1 ||| x.2).testBit p = false) := by
      rw [mn_d_bit, Bool.and_eq_true, Bool.not_eq_true']
    unfold cpass mpass
    by_cases hc : (f 52).testBit p = true ∧ (x.1 ||| x.2).testBit p = false
    · rw [if_pos (hcond.mpr hc), if_pos hc]
      have hx0 : (x.1 ||| 2 ^ p, x.2).1 < 256 ∧ (x.1 ||| 2 ^ p, x.2).2 < 256 := ⟨or8 hx.1 (p8 hp), hx.2⟩
      have h1 : 1 ≤ cn2 (x.1 ||| 2 ^ p, x.2) := by
        unfold cn2
        have : 0 < fn_cnt (x.1 ||| 2 ^ p) := by
          have := cnt_lt (a := 0) hx0.1 sb_0 (fun z => by
            have h3 : (x.1 ||| 2 ^ p).testBit p = true := by rw [Nat.testBit_or, bit_pow, decide_eq_true rfl, Bool.or_true]
            have z : 0 = x.1 ||| 2 ^ p := z
            rw [← z, Nat.zero_testBit] at h3
            cases h3)
          have h5 : fn_cnt 0 = 0 := by decide
          rw [h5] at this
          exact this
        dsimp only
        omega
      obtain ⟨k1, k2⟩ := same8 hw hx0 h1
      by_cases hd : dj (mr_it (fun _ x => cstep f x) 8 (x.1 ||| 2 ^ p, x.2))
      · exact Or.inr ⟨(k2 hd).1, hd⟩
      · exact Or.inl ⟨hd, fun z => hd (k1.mpr z)⟩
    · rw [if_neg (fun z => hc (hcond.mp z)), if_neg hc]
      exact Or.inr ⟨rfl, h2⟩
theorem camp_eq (hw : wf f L) : fn_camp f = if (mr_it (mpass f (f 55)) (f 55) (0, 0)).1 &&& (mr_it (mpass f (f 55)) (f 55) (0, 0)).2 = 0 then nI (mr_it (mpass f (f 55)) (f 55) (0, 0)).1 else -1 := by
  have hn := wf_n hw
  have e8 : mr_it (cpass f) 8 (0, 0) = mr_it (cpass f) (f 55) (0, 0) := mr_it_ext hn (fun i a h1 h2 => by
    unfold cpass
    rw [if_neg]
    intro z
    rw [mn_d_bit, Bool.and_eq_true] at z
    have := bit_lt (wf_l hw) z.1
    omega)
  have hr : ∀ n, n ≤ 8 → (mr_it (cpass f) n (0, 0)).1 < 256 ∧ (mr_it (cpass f) n (0, 0)).2 < 256 ∧ rel2 f (mr_it (cpass f) n (0, 0)) (mr_it (mpass f (f 55)) n (0, 0)) := by
    intro n
    induction n with
    | zero => intro _; exact ⟨Nat.zero_lt_succ _, Nat.zero_lt_succ _, Or.inr ⟨rfl, Nat.zero_and 0⟩⟩
    | succ n ih =>
      intro hn
      obtain ⟨h1, h2, h3⟩ := ih (by omega)
      have h4 := cpass_lt hw (show n < 8 by omega) ⟨h1, h2⟩
      exact ⟨h4.1, h4.2, pass_rel hw (by omega) ⟨h1, h2⟩ h3⟩
  obtain ⟨-, -, h⟩ := hr (f 55) hn
  unfold fn_camp
  rw [e8]
  unfold rel2 dj at h
  rcases h with ⟨h1, h2⟩ | ⟨h1, h2⟩
  · rw [if_neg h1, if_neg h2]
  · rw [← h1]
end
section
variable {X : mj_X} {d : Nat} {s : mw_S} {f : Nat → Nat} {L : Nat}
theorem c280 (hw : wf f L) : mj_call X (d + 3) 280 [.ref 42] (mw_U (mp s f)) = some (.inl (some (.int (fn_camp f))), mw_U (mp (mw_p s 42 2 (nI 0)) f)) := by
  have hn := wf_n hw
  have hf := wf_lt hw
  have h52 := wf_l8 hw
  rw [b280]
  simp (disch := first | assumption | exact hf _ | omega) only [b280_0, mp_wo]
  obtain ⟨hI, g, e⟩ := mr_for (E := fun i x (l : Option Value × Option Value) => mj_exec X (d + 3) 280 11 [some (.ref 42), some (.int (nI x.1)), some (.int (nI x.2)), some (.int (nI i)), l.1, l.2] [] (mw_U (mp (mw_p s 42 2 (nI 0)) f))) (F := fun p (x : Nat × Nat) => mpass f (f 55) p x) (I := fun i x => x.1 < 256 ∧ x.2 < 256) (N := (f 55)) (by
    intro i x l hi hI
    have hi8 : i < 8 := by omega
    refine ⟨mpass_lt hw hi8 hI, ?_⟩
    have ho := or8 hI.1 hI.2
    rw [b280_11]
    unfold mpass
    cases h : (f 52).testBit i
    · refine ⟨l, ?_⟩
      simp (disch := first | assumption | exact hf _ | omega) only [b280, b280_0, b280_21, b280_26, b280_29, b280_36, b280_39, b280_42, b280_58, b280_72, b280_79, b280_82, b280_88, b280_91, b280_92, b280_101, b280_104, b280_110, b280_113, b280_114, b280_122, b280_128, b280_134, b280_140, b280_144, b280_145, nI_add, mn_mul, mn_sub, mn_m1, mn_m8, mn_eq, mn_lt, mn_le, mn_eq0, mn_0eq, mn_lt0, mn_0lt, mn_le0, mn_0le, mn_eqm, mn_meq, mn_ltm, mn_mlt, mn_lem, mn_mle, mn_mm1, mn_mm2, mn_mm3, mn_mm4, mn_mm5, mn_mm6, mn_and, mn_or, mn_an, mn_shl, mn_shr, mn_div, mn_rem, mn_clamp, mn_in, mn_inm, mn_nz, mn_zo, mn_min, mn_max, mn_abs, mn_rfit, mn_cp, mn_les, mn_gre, mn_a127, mn_a15, mn_a1, mn_a255, mn_tn0, mn_tn0e, mn_tnr, mn_tnz, mr_get, mr_ne, mr_put, mu_ne, mu_eq, mj_bk_i, mj_bk_v, mj_bk_x, decide_eq_true_eq, decide_true, decide_false, Bool.false_eq_true, Bool.true_eq_false, reduceCtorEq, mt_le_t, mt_le_f, mt_lt_t, mt_lt_f, mt_eq_t, mt_eq_f, mt_ee, not_true_eq_false, not_false_eq_true, and_true, true_and, and_self, Nat.zero_add, Nat.add_zero, Nat.one_mul, Nat.mul_one, Nat.reduceAdd, Nat.reduceMul, Nat.reduceSub, Nat.reducePow, Nat.reduceDiv, Nat.reduceMod, ↓reduceIte, mp_h, mp_w, mp_c, mp_s, mp_d, mp_n, mp_54, mp_52, mp_55, mp_l, mp_o, mp_42, mp_45, gh_gp, gw_gp, gc_gp, mw_pne, Nat.or_zero, c241 hf (show i < 32 by omega), h, false_and]
    · cases h2 : (x.1 ||| x.2).testBit i
      · obtain ⟨hI2, l5, e2⟩ := mr_for (E := fun j (y : Nat × Nat) (l : Option Value) => mj_exec X (d + 3) 280 51 [some (.ref 42), some (.int (nI y.1)), some (.int (nI y.2)), some (.int (nI i)), some (.int (nI j)), l] [] (mw_U (mp (mw_p s 42 2 (nI 0)) f))) (F := fun _ y => mstep f (f 55) y) (I := fun _ y => y.1 < 256 ∧ y.2 < 256) (N := 8) (by
          intro j y l hj hy
          refine ⟨mstep_lt hw hy, ?_⟩
          obtain ⟨hI3, _, e3⟩ := mr_for (E := fun q (y : Nat × Nat) (_ : Unit) => mj_exec X (d + 3) 280 61 [some (.ref 42), some (.int (nI y.1)), some (.int (nI y.2)), some (.int (nI i)), some (.int (nI j)), some (.int (nI q))] [] (mw_U (mp (mw_p s 42 2 (nI 0)) f))) (F := fun q y => msq f q y) (I := fun _ y => y.1 < 256 ∧ y.2 < 256) (N := f 55) (by
            intro q y _ hq hy
            have hq8 : q < 8 := by omega
            refine ⟨msq_lt hw hq8 hy, (), ?_⟩
            have ht := wf_t hw hq8
            have o1 := or8 hy.2 ht
            rw [b280_61]
            unfold msq
            cases a1 : y.1.testBit q
            · cases a2 : y.2.testBit q
              · simp (disch := first | assumption | exact hf _ | omega) only [b280, b280_0, b280_21, b280_26, b280_29, b280_36, b280_39, b280_42, b280_58, b280_72, b280_79, b280_82, b280_88, b280_91, b280_92, b280_101, b280_104, b280_110, b280_113, b280_114, b280_122, b280_128, b280_134, b280_140, b280_144, b280_145, nI_add, mn_mul, mn_sub, mn_m1, mn_m8, mn_eq, mn_lt, mn_le, mn_eq0, mn_0eq, mn_lt0, mn_0lt, mn_le0, mn_0le, mn_eqm, mn_meq, mn_ltm, mn_mlt, mn_lem, mn_mle, mn_mm1, mn_mm2, mn_mm3, mn_mm4, mn_mm5, mn_mm6, mn_and, mn_or, mn_an, mn_shl, mn_shr, mn_div, mn_rem, mn_clamp, mn_in, mn_inm, mn_nz, mn_zo, mn_min, mn_max, mn_abs, mn_rfit, mn_cp, mn_les, mn_gre, mn_a127, mn_a15, mn_a1, mn_a255, mn_tn0, mn_tn0e, mn_tnr, mn_tnz, mr_get, mr_ne, mr_put, mu_ne, mu_eq, mj_bk_i, mj_bk_v, mj_bk_x, decide_eq_true_eq, decide_true, decide_false, Bool.false_eq_true, Bool.true_eq_false, reduceCtorEq, mt_le_t, mt_le_f, mt_lt_t, mt_lt_f, mt_eq_t, mt_eq_f, mt_ee, not_true_eq_false, not_false_eq_true, and_true, true_and, and_self, Nat.zero_add, Nat.add_zero, Nat.one_mul, Nat.mul_one, Nat.reduceAdd, Nat.reduceMul, Nat.reduceSub, Nat.reducePow, Nat.reduceDiv, Nat.reduceMod, ↓reduceIte, mp_h, mp_w, mp_c, mp_s, mp_d, mp_n, mp_54, mp_52, mp_55, mp_l, mp_o, mp_42, mp_45, gh_gp, gw_gp, gc_gp, mw_pne, Nat.or_zero, c236, a1, a2]
              · simp (disch := first | assumption | exact hf _ | omega) only [b280, b280_0, b280_21, b280_26, b280_29, b280_36, b280_39, b280_42, b280_58, b280_72, b280_79, b280_82, b280_88, b280_91, b280_92, b280_101, b280_104, b280_110, b280_113, b280_114, b280_122, b280_128, b280_134, b280_140, b280_144, b280_145, nI_add, mn_mul, mn_sub, mn_m1, mn_m8, mn_eq, mn_lt, mn_le, mn_eq0, mn_0eq, mn_lt0, mn_0lt, mn_le0, mn_0le, mn_eqm, mn_meq, mn_ltm, mn_mlt, mn_lem, mn_mle, mn_mm1, mn_mm2, mn_mm3, mn_mm4, mn_mm5, mn_mm6, mn_and, mn_or, mn_an, mn_shl, mn_shr, mn_div, mn_rem, mn_clamp, mn_in, mn_inm, mn_nz, mn_zo, mn_min, mn_max, mn_abs, mn_rfit, mn_cp, mn_les, mn_gre, mn_a127, mn_a15, mn_a1, mn_a255, mn_tn0, mn_tn0e, mn_tnr, mn_tnz, mr_get, mr_ne, mr_put, mu_ne, mu_eq, mj_bk_i, mj_bk_v, mj_bk_x, decide_eq_true_eq, decide_true, decide_false, Bool.false_eq_true, Bool.true_eq_false, reduceCtorEq, mt_le_t, mt_le_f, mt_lt_t, mt_lt_f, mt_eq_t, mt_eq_f, mt_ee, not_true_eq_false, not_false_eq_true, and_true, true_and, and_self, Nat.zero_add, Nat.add_zero, Nat.one_mul, Nat.mul_one, Nat.reduceAdd, Nat.reduceMul, Nat.reduceSub, Nat.reducePow, Nat.reduceDiv, Nat.reduceMod, ↓reduceIte, mp_h, mp_w, mp_c, mp_s, mp_d, mp_n, mp_54, mp_52, mp_55, mp_l, mp_o, mp_42, mp_45, gh_gp, gw_gp, gc_gp, mw_pne, Nat.or_zero, c236, a1, a2, c228 hw hq8]
            · cases a2 : (y.2 ||| f (56 + q)).testBit q
              · simp (disch := first | assumption | exact hf _ | omega) only [b280, b280_0, b280_21, b280_26, b280_29, b280_36, b280_39, b280_42, b280_58, b280_72, b280_79, b280_82, b280_88, b280_91, b280_92, b280_101, b280_104, b280_110, b280_113, b280_114, b280_122, b280_128, b280_134, b280_140, b280_144, b280_145, nI_add, mn_mul, mn_sub, mn_m1, mn_m8, mn_eq, mn_lt, mn_le, mn_eq0, mn_0eq, mn_lt0, mn_0lt, mn_le0, mn_0le, mn_eqm, mn_meq, mn_ltm, mn_mlt, mn_lem, mn_mle, mn_mm1, mn_mm2, mn_mm3, mn_mm4, mn_mm5, mn_mm6, mn_and, mn_or, mn_an, mn_shl, mn_shr, mn_div, mn_rem, mn_clamp, mn_in, mn_inm, mn_nz, mn_zo, mn_min, mn_max, mn_abs, mn_rfit, mn_cp, mn_les, mn_gre, mn_a127, mn_a15, mn_a1, mn_a255, mn_tn0, mn_tn0e, mn_tnr, mn_tnz, mr_get, mr_ne, mr_put, mu_ne, mu_eq, mj_bk_i, mj_bk_v, mj_bk_x, decide_eq_true_eq, decide_true, decide_false, Bool.false_eq_true, Bool.true_eq_false, reduceCtorEq, mt_le_t, mt_le_f, mt_lt_t, mt_lt_f, mt_eq_t, mt_eq_f, mt_ee, not_true_eq_false, not_false_eq_true, and_true, true_and, and_self, Nat.zero_add, Nat.add_zero, Nat.one_mul, Nat.mul_one, Nat.reduceAdd, Nat.reduceMul, Nat.reduceSub, Nat.reducePow, Nat.reduceDiv, Nat.reduceMod, ↓reduceIte, mp_h, mp_w, mp_c, mp_s, mp_d, mp_n, mp_54, mp_52, mp_55, mp_l, mp_o, mp_42, mp_45, gh_gp, gw_gp, gc_gp, mw_pne, Nat.or_zero, c236, a1, a2, c228 hw hq8]
              · simp (disch := first | assumption | exact hf _ | omega) only [b280, b280_0, b280_21, b280_26, b280_29, b280_36, b280_39, b280_42, b280_58, b280_72, b280_79, b280_82, b280_88, b280_91, b280_92, b280_101, b280_104, b280_110, b280_113, b280_114, b280_122, b280_128, b280_134, b280_140, b280_144, b280_145, nI_add, mn_mul, mn_sub, mn_m1, mn_m8, mn_eq, mn_lt, mn_le, mn_eq0, mn_0eq, mn_lt0, mn_0lt, mn_le0, mn_0le, mn_eqm, mn_meq, mn_ltm, mn_mlt, mn_lem, mn_mle, mn_mm1, mn_mm2, mn_mm3, mn_mm4, mn_mm5, mn_mm6, mn_and, mn_or, mn_an, mn_shl, mn_shr, mn_div, mn_rem, mn_clamp, mn_in, mn_inm, mn_nz, mn_zo, mn_min, mn_max, mn_abs, mn_rfit, mn_cp, mn_les, mn_gre, mn_a127, mn_a15, mn_a1, mn_a255, mn_tn0, mn_tn0e, mn_tnr, mn_tnz, mr_get, mr_ne, mr_put, mu_ne, mu_eq, mj_bk_i, mj_bk_v, mj_bk_x, decide_eq_true_eq, decide_true, decide_false, Bool.false_eq_true, Bool.true_eq_false, reduceCtorEq, mt_le_t, mt_le_f, mt_lt_t, mt_lt_f, mt_eq_t, mt_eq_f, mt_ee, not_true_eq_false, not_false_eq_true, and_true, true_and, and_self, Nat.zero_add, Nat.add_zero, Nat.one_mul, Nat.mul_one, Nat.reduceAdd, Nat.reduceMul, Nat.reduceSub, Nat.reducePow, Nat.reduceDiv, Nat.reduceMod, ↓reduceIte, mp_h, mp_w, mp_c, mp_s, mp_d, mp_n, mp_54, mp_52, mp_55, mp_l, mp_o, mp_42, mp_45, gh_gp, gw_gp, gc_gp, mw_pne, Nat.or_zero, c236, a1, a2, c228 hw hq8]) (a := y) hy () (f 55) (Nat.le_refl _)
          refine ⟨some (.int (nI (f 55))), ?_⟩
          rw [b280_51]
          simp (disch := first | assumption | exact hf _ | omega) only [mn_le, mt_le_f, ↓reduceIte, b280_58]
          refine e3.trans ?_
          rw [b280_61]
          simp (disch := first | assumption | exact hf _ | omega) only [b280, b280_0, b280_21, b280_26, b280_29, b280_36, b280_39, b280_42, b280_58, b280_72, b280_79, b280_82, b280_88, b280_91, b280_92, b280_101, b280_104, b280_110, b280_113, b280_114, b280_122, b280_128, b280_134, b280_140, b280_144, b280_145, nI_add, mn_mul, mn_sub, mn_m1, mn_m8, mn_eq, mn_lt, mn_le, mn_eq0, mn_0eq, mn_lt0, mn_0lt, mn_le0, mn_0le, mn_eqm, mn_meq, mn_ltm, mn_mlt, mn_lem, mn_mle, mn_mm1, mn_mm2, mn_mm3, mn_mm4, mn_mm5, mn_mm6, mn_and, mn_or, mn_an, mn_shl, mn_shr, mn_div, mn_rem, mn_clamp, mn_in, mn_inm, mn_nz, mn_zo, mn_min, mn_max, mn_abs, mn_rfit, mn_cp, mn_les, mn_gre, mn_a127, mn_a15, mn_a1, mn_a255, mn_tn0, mn_tn0e, mn_tnr, mn_tnz, mr_get, mr_ne, mr_put, mu_ne, mu_eq, mj_bk_i, mj_bk_v, mj_bk_x, decide_eq_true_eq, decide_true, decide_false, Bool.false_eq_true, Bool.true_eq_false, reduceCtorEq, mt_le_t, mt_le_f, mt_lt_t, mt_lt_f, mt_eq_t, mt_eq_f, mt_ee, not_true_eq_false, not_false_eq_true, and_true, true_and, and_self, Nat.zero_add, Nat.add_zero, Nat.one_mul, Nat.mul_one, Nat.reduceAdd, Nat.reduceMul, Nat.reduceSub, Nat.reducePow, Nat.reduceDiv, Nat.reduceMod, ↓reduceIte, mp_h, mp_w, mp_c, mp_s, mp_d, mp_n, mp_54, mp_52, mp_55, mp_l, mp_o, mp_42, mp_45, gh_gp, gw_gp, gc_gp, mw_pne, Nat.or_zero]
          rfl) (a := (x.1 ||| 2 ^ i, x.2)) ⟨or8 hI.1 (p8 hi8), hI.2⟩ l.2 8 (Nat.le_refl 8)
        refine ⟨(some (.int (nI 8)), l5), ?_⟩
        simp (disch := first | assumption | exact hf _ | omega) only [mn_in, decide_eq_true_eq, mt_lt_t, mn_clamp, mp_55, mn_le, mt_le_f, ↓reduceIte, b280_21, c241 hf (show i < 32 by omega), h, mj_bk_i, b280_26, Bool.toNat_true, Bool.toNat_false, mn_eq0, mt_eq_f, b280_29, mn_or, c236, h2, b280_36, mn_shl, Nat.one_mul, b280_42, true_and, and_self]
        refine e2.trans ?_
        rw [b280_51]
        simp (disch := first | assumption | exact hf _ | omega) only [b280, b280_0, b280_21, b280_26, b280_29, b280_36, b280_39, b280_42, b280_58, b280_72, b280_79, b280_82, b280_88, b280_91, b280_92, b280_101, b280_104, b280_110, b280_113, b280_114, b280_122, b280_128, b280_134, b280_140, b280_144, b280_145, nI_add, mn_mul, mn_sub, mn_m1, mn_m8, mn_eq, mn_lt, mn_le, mn_eq0, mn_0eq, mn_lt0, mn_0lt, mn_le0, mn_0le, mn_eqm, mn_meq, mn_ltm, mn_mlt, mn_lem, mn_mle, mn_mm1, mn_mm2, mn_mm3, mn_mm4, mn_mm5, mn_mm6, mn_and, mn_or, mn_an, mn_shl, mn_shr, mn_div, mn_rem, mn_clamp, mn_in, mn_inm, mn_nz, mn_zo, mn_min, mn_max, mn_abs, mn_rfit, mn_cp, mn_les, mn_gre, mn_a127, mn_a15, mn_a1, mn_a255, mn_tn0, mn_tn0e, mn_tnr, mn_tnz, mr_get, mr_ne, mr_put, mu_ne, mu_eq, mj_bk_i, mj_bk_v, mj_bk_x, decide_eq_true_eq, decide_true, decide_false, Bool.false_eq_true, Bool.true_eq_false, reduceCtorEq, mt_le_t, mt_le_f, mt_lt_t, mt_lt_f, mt_eq_t, mt_eq_f, mt_ee, not_true_eq_false, not_false_eq_true, and_true, true_and, and_self, Nat.zero_add, Nat.add_zero, Nat.one_mul, Nat.mul_one, Nat.reduceAdd, Nat.reduceMul, Nat.reduceSub, Nat.reducePow, Nat.reduceDiv, Nat.reduceMod, ↓reduceIte, mp_h, mp_w, mp_c, mp_s, mp_d, mp_n, mp_54, mp_52, mp_55, mp_l, mp_o, mp_42, mp_45, gh_gp, gw_gp, gc_gp, mw_pne, Nat.or_zero]
      · refine ⟨l, ?_⟩
        simp (disch := first | assumption | exact hf _ | omega) only [b280, b280_0, b280_21, b280_26, b280_29, b280_36, b280_39, b280_42, b280_58, b280_72, b280_79, b280_82, b280_88, b280_91, b280_92, b280_101, b280_104, b280_110, b280_113, b280_114, b280_122, b280_128, b280_134, b280_140, b280_144, b280_145, nI_add, mn_mul, mn_sub, mn_m1, mn_m8, mn_eq, mn_lt, mn_le, mn_eq0, mn_0eq, mn_lt0, mn_0lt, mn_le0, mn_0le, mn_eqm, mn_meq, mn_ltm, mn_mlt, mn_lem, mn_mle, mn_mm1, mn_mm2, mn_mm3, mn_mm4, mn_mm5, mn_mm6, mn_and, mn_or, mn_an, mn_shl, mn_shr, mn_div, mn_rem, mn_clamp, mn_in, mn_inm, mn_nz, mn_zo, mn_min, mn_max, mn_abs, mn_rfit, mn_cp, mn_les, mn_gre, mn_a127, mn_a15, mn_a1, mn_a255, mn_tn0, mn_tn0e, mn_tnr, mn_tnz, mr_get, mr_ne, mr_put, mu_ne, mu_eq, mj_bk_i, mj_bk_v, mj_bk_x, decide_eq_true_eq, decide_true, decide_false, Bool.false_eq_true, Bool.true_eq_false, reduceCtorEq, mt_le_t, mt_le_f, mt_lt_t, mt_lt_f, mt_eq_t, mt_eq_f, mt_ee, not_true_eq_false, not_false_eq_true, and_true, true_and, and_self, Nat.zero_add, Nat.add_zero, Nat.one_mul, Nat.mul_one, Nat.reduceAdd, Nat.reduceMul, Nat.reduceSub, Nat.reducePow, Nat.reduceDiv, Nat.reduceMod, ↓reduceIte, mp_h, mp_w, mp_c, mp_s, mp_d, mp_n, mp_54, mp_52, mp_55, mp_l, mp_o, mp_42, mp_45, gh_gp, gw_gp, gc_gp, mw_pne, Nat.or_zero, c241 hf (show i < 32 by omega), h, c236, h2]
  ) (a := (0, 0)) ⟨by decide, by decide⟩ (none, none) (f 55) (Nat.le_refl (f 55))
  refine e.trans ?_
  rw [b280_11, camp_eq hw]
  have hl : (mr_it (fun p x => mpass f (f 55) p x) (f 55) (0, 0)).1 &&& (mr_it (fun p x => mpass f (f 55) p x) (f 55) (0, 0)).2 < 2147483648 := Nat.lt_of_le_of_lt Nat.and_le_left (by omega)
  by_cases hz : (mr_it (mpass f (f 55)) (f 55) (0, 0)).1 &&& (mr_it (mpass f (f 55)) (f 55) (0, 0)).2 = 0
  · simp (disch := first | assumption | exact hf _ | omega) only [b280, b280_0, b280_21, b280_26, b280_29, b280_36, b280_39, b280_42, b280_58, b280_72, b280_79, b280_82, b280_88, b280_91, b280_92, b280_101, b280_104, b280_110, b280_113, b280_114, b280_122, b280_128, b280_134, b280_140, b280_144, b280_145, nI_add, mn_mul, mn_sub, mn_m1, mn_m8, mn_eq, mn_lt, mn_le, mn_eq0, mn_0eq, mn_lt0, mn_0lt, mn_le0, mn_0le, mn_eqm, mn_meq, mn_ltm, mn_mlt, mn_lem, mn_mle, mn_mm1, mn_mm2, mn_mm3, mn_mm4, mn_mm5, mn_mm6, mn_and, mn_or, mn_an, mn_shl, mn_shr, mn_div, mn_rem, mn_clamp, mn_in, mn_inm, mn_nz, mn_zo, mn_min, mn_max, mn_abs, mn_rfit, mn_cp, mn_les, mn_gre, mn_a127, mn_a15, mn_a1, mn_a255, mn_tn0, mn_tn0e, mn_tnr, mn_tnz, mr_get, mr_ne, mr_put, mu_ne, mu_eq, mj_bk_i, mj_bk_v, mj_bk_x, decide_eq_true_eq, decide_true, decide_false, Bool.false_eq_true, Bool.true_eq_false, reduceCtorEq, mt_le_t, mt_le_f, mt_lt_t, mt_lt_f, mt_eq_t, mt_eq_f, mt_ee, not_true_eq_false, not_false_eq_true, and_true, true_and, and_self, Nat.zero_add, Nat.add_zero, Nat.one_mul, Nat.mul_one, Nat.reduceAdd, Nat.reduceMul, Nat.reduceSub, Nat.reducePow, Nat.reduceDiv, Nat.reduceMod, ↓reduceIte, mp_h, mp_w, mp_c, mp_s, mp_d, mp_n, mp_54, mp_52, mp_55, mp_l, mp_o, mp_42, mp_45, gh_gp, gw_gp, gc_gp, mw_pne, Nat.or_zero, hz]
  · simp (disch := first | assumption | exact hf _ | omega) only [b280, b280_0, b280_21, b280_26, b280_29, b280_36, b280_39, b280_42, b280_58, b280_72, b280_79, b280_82, b280_88, b280_91, b280_92, b280_101, b280_104, b280_110, b280_113, b280_114, b280_122, b280_128, b280_134, b280_140, b280_144, b280_145, nI_add, mn_mul, mn_sub, mn_m1, mn_m8, mn_eq, mn_lt, mn_le, mn_eq0, mn_0eq, mn_lt0, mn_0lt, mn_le0, mn_0le, mn_eqm, mn_meq, mn_ltm, mn_mlt, mn_lem, mn_mle, mn_mm1, mn_mm2, mn_mm3, mn_mm4, mn_mm5, mn_mm6, mn_and, mn_or, mn_an, mn_shl, mn_shr, mn_div, mn_rem, mn_clamp, mn_in, mn_inm, mn_nz, mn_zo, mn_min, mn_max, mn_abs, mn_rfit, mn_cp, mn_les, mn_gre, mn_a127, mn_a15, mn_a1, mn_a255, mn_tn0, mn_tn0e, mn_tnr, mn_tnz, mr_get, mr_ne, mr_put, mu_ne, mu_eq, mj_bk_i, mj_bk_v, mj_bk_x, decide_eq_true_eq, decide_true, decide_false, Bool.false_eq_true, Bool.true_eq_false, reduceCtorEq, mt_le_t, mt_le_f, mt_lt_t, mt_lt_f, mt_eq_t, mt_eq_f, mt_ee, not_true_eq_false, not_false_eq_true, and_true, true_and, and_self, Nat.zero_add, Nat.add_zero, Nat.one_mul, Nat.mul_one, Nat.reduceAdd, Nat.reduceMul, Nat.reduceSub, Nat.reducePow, Nat.reduceDiv, Nat.reduceMod, ↓reduceIte, mp_h, mp_w, mp_c, mp_s, mp_d, mp_n, mp_54, mp_52, mp_55, mp_l, mp_o, mp_42, mp_45, gh_gp, gw_gp, gc_gp, mw_pne, Nat.or_zero, hz]
end
