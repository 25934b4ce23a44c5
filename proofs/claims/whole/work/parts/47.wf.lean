/-! what holds of a row of Folk's, once a TEXT is read (L: who may have quarrels) -/
def wf (f : Nat → Nat) (L : Nat) : Prop :=
  (∀ j, f j < 2147483648) ∧ f 55 ≤ 8 ∧ (L < 2 ^ f 55 ∧ f 52 < 2 ^ f 55 ∧ f 53 < 2 ^ f 55) ∧ (∀ p, p < 8 → f p ≤ 9 ∧ f (8 + p) < 1024) ∧
  (∀ p q, p < 8 → fs f p = some q → q < 8 ∧ ¬ q = p ∧ fs f q = some p ∧ (f 52).testBit p = true) ∧
  (∀ i, i < 28 → f (24 + i) = 0 ∨ (1 ≤ fh f i ∧ fh f i ≤ 99 ∧ fw f i ≤ 9 ∧ fc f i ≤ 99 ∧ L.testBit (mn_l i) = true ∧ L.testBit (mn_g i) = true)) ∧
  (∀ p, p < 8 → ∀ q, (f (56 + p)).testBit q = (decide (q < 8) && decide (0 < fhp f p q)))
section
variable {f : Nat → Nat} {L : Nat}
theorem wf_lt (h : wf f L) : ∀ j, f j < 2147483648 := h.1
theorem wf_n (h : wf f L) : f 55 ≤ 8 := h.2.1
theorem wf_L (h : wf f L) : L < 2 ^ f 55 := h.2.2.1.1
theorem wf_l (h : wf f L) : f 52 < 2 ^ f 55 := h.2.2.1.2.1
theorem wf_w (h : wf f L) : f 53 < 2 ^ f 55 := h.2.2.1.2.2
theorem wf_p (h : wf f L) {p : Nat} (hp : p < 8) : f p ≤ 9 := (h.2.2.2.1 p hp).1
theorem wf_d (h : wf f L) {p : Nat} (hp : p < 8) : f (8 + p) < 1024 := (h.2.2.2.1 p hp).2
theorem wf_s (h : wf f L) {p q : Nat} (hp : p < 8) (hq : fs f p = some q) : q < 8 ∧ ¬ q = p ∧ fs f q = some p ∧ (f 52).testBit p = true := h.2.2.2.2.1 p q hp hq
theorem wf_q (h : wf f L) {i : Nat} (hi : i < 28) : f (24 + i) = 0 ∨ (1 ≤ fh f i ∧ fh f i ≤ 99 ∧ fw f i ≤ 9 ∧ fc f i ≤ 99 ∧ L.testBit (mn_l i) = true ∧ L.testBit (mn_g i) = true) := h.2.2.2.2.2.1 i hi
theorem wf_b (h : wf f L) {p : Nat} (hp : p < 8) (q : Nat) : (f (56 + p)).testBit q = (decide (q < 8) && decide (0 < fhp f p q)) := h.2.2.2.2.2.2 p hp q
theorem wf_t (h : wf f L) {p : Nat} (hp : p < 8) : f (56 + p) < 256 := Nat.lt_pow_two_of_testBit (n := 8) _ (fun i hi => by
  rw [wf_b h hp, decide_eq_false (show ¬ i < 8 by omega)]; rfl)
theorem p8_le {n : Nat} (h : n ≤ 8) : 2 ^ n ≤ 256 := Nat.pow_le_pow_right (n := 2) (by decide) h
theorem wf_L8 (h : wf f L) : L < 256 := Nat.lt_of_lt_of_le (wf_L h) (p8_le (wf_n h))
theorem wf_l8 (h : wf f L) : f 52 < 256 := Nat.lt_of_lt_of_le (wf_l h) (p8_le (wf_n h))
theorem wf_w8 (h : wf f L) : f 53 < 256 := Nat.lt_of_lt_of_le (wf_w h) (p8_le (wf_n h))
theorem bit_lt {a n i : Nat} (h : a < 2 ^ n) (hb : a.testBit i = true) : i < n := by
  rcases Nat.lt_or_ge i n with h1 | h1
  · exact h1
  · rw [Nat.testBit_lt_two_pow (Nat.lt_of_lt_of_le h (Nat.pow_le_pow_right (by decide) h1))] at hb
    cases hb
theorem wf_h (h : wf f L) {i : Nat} (hi : i < 28) : fh f i ≤ 99 := by
  rcases wf_q h hi with h0 | h0
  · unfold fh; rw [h0]; decide
  · exact h0.2.1
theorem wf_wd (h : wf f L) {i : Nat} (hi : i < 28) : fw f i ≤ 9 := by
  rcases wf_q h hi with h0 | h0
  · unfold fw; rw [h0]; decide
  · exact h0.2.2.1
theorem wf_c (h : wf f L) {i : Nat} (hi : i < 28) : fc f i ≤ 99 := by
  rcases wf_q h hi with h0 | h0
  · unfold fc; rw [h0]; decide
  · exact h0.2.2.2.1
theorem wf_z (h : wf f L) {i : Nat} (hi : i < 28) : f (24 + i) = 0 ↔ fh f i = 0 := by
  constructor
  · intro h0; unfold fh; rw [h0]
  · intro h0
    rcases wf_q h hi with h1 | h1
    · exact h1
    · omega
theorem wf_m (h : wf f L) {i : Nat} (hi : i < 28) (h0 : 0 < fh f i) : L.testBit (mn_l i) = true ∧ L.testBit (mn_g i) = true := by
  rcases wf_q h hi with h1 | h1
  · have := (wf_z h hi).mp h1; omega
  · exact h1.2.2.2.2
/-- who has a quarrel is told -/
theorem wf_mn (h : wf f L) {p q : Nat} (hp : p < 8) (hq : q < 8) (h0 : 0 < fhp f p q) : ¬ p = q ∧ L.testBit p = true ∧ L.testBit q = true ∧ p < f 55 ∧ q < f 55 := by
  unfold fhp at h0
  by_cases he : p = q
  · rw [if_pos he] at h0; omega
  · rw [if_neg he] at h0
    have hm := wf_m h (fp_lt hp hq he) h0
    rcases Nat.lt_or_ge p q with hpq | hpq
    · obtain ⟨e1, e2⟩ := fp_l hpq hq
      rw [e1, e2] at hm
      exact ⟨he, hm.1, hm.2, bit_lt (wf_L h) hm.1, bit_lt (wf_L h) hm.2⟩
    · rw [fp_comm] at hm
      obtain ⟨e1, e2⟩ := fp_l (p := q) (q := p) (by omega) hp
      rw [e1, e2] at hm
      exact ⟨he, hm.2, hm.1, bit_lt (wf_L h) hm.2, bit_lt (wf_L h) hm.1⟩
theorem fp_i : ∀ {i p q : Nat}, i < 28 → p < 8 → q < 8 → ¬ p = q → (fp p q = i ↔ (p = mn_l i ∧ q = mn_g i) ∨ (p = mn_g i ∧ q = mn_l i)) := by
  have : ∀ i, i < 28 → ∀ p, p < 8 → ∀ q, q < 8 → (p == q || ((fp p q == i) == ((p == mn_l i && q == mn_g i) || (p == mn_g i && q == mn_l i)))) = true := by decide +kernel
  intro i p q a b c e
  have h := this i a p b q c
  rw [Bool.or_eq_true, beq_iff_eq, beq_iff_eq] at h
  rcases h with h | h
  · exact absurd h e
  · rw [Bool.eq_iff_iff] at h
    simpa using h
def fqi (i p q : Nat) : Prop := (p = mn_l i ∧ q = mn_g i) ∨ (p = mn_g i ∧ q = mn_l i)
theorem fhp_u {f' : Nat → Nat} {i v : Nat} (hi : i < 28) (h : ∀ j, j < 56 → f' j = if j = 24 + i then v else f j) {p q : Nat} (hp : p < 8) (hq : q < 8) : fhp f' p q = if fp p q = i ∧ ¬ p = q then v % 128 else fhp f p q := by
  unfold fhp
  by_cases he : p = q
  · rw [if_pos he, if_pos he, if_neg (fun z => z.2 he)]
  · rw [if_neg he, if_neg he]
    have hl := fp_lt hp hq he
    unfold fh
    rw [h _ (by omega)]
    by_cases h2 : fp p q = i
    · rw [if_pos (by omega), if_pos ⟨h2, he⟩]
    · rw [if_neg (by omega), if_neg (fun z => h2 z.1)]
/-- one pair is written -/
theorem wf_upd {f' : Nat → Nat} {i v : Nat} (hw : wf f L) (hi : i < 28) (h : ∀ j, j < 56 → f' j = if j = 24 + i then v else f j) (hf : ∀ j, f' j < 2147483648) (hv : v = 0 ∨ (1 ≤ v % 128 ∧ v % 128 ≤ 99 ∧ v / 128 % 16 ≤ 9 ∧ v / 2048 ≤ 99 ∧ L.testBit (mn_l i) = true ∧ L.testBit (mn_g i) = true))
    (ht : ∀ p, p < 8 → ∀ q, fqi i p q → (f' (56 + p)).testBit q = decide (0 < v % 128)) (ht2 : ∀ p, p < 8 → ∀ q, ¬ fqi i p q → (f' (56 + p)).testBit q = (f (56 + p)).testBit q) : wf f' L := by
  have e : ∀ j, j < 24 → f' j = f j := fun j hj => by rw [h j (by omega), if_neg (by omega)]
  have e2 : ∀ j, 52 ≤ j → j < 56 → f' j = f j := fun j h1 hj => by rw [h j hj, if_neg (by omega)]
  refine ⟨hf, ?_, ?_, ?_, ?_, ?_, ?_⟩
  · rw [e2 55 (by omega) (by omega)]; exact wf_n hw
  · rw [e2 55 (by omega) (by omega), e2 52 (by omega) (by omega), e2 53 (by omega) (by omega)]; exact ⟨wf_L hw, wf_l hw, wf_w hw⟩
  · intro p hp
    rw [e p (by omega), e (8 + p) (by omega)]; exact ⟨wf_p hw hp, wf_d hw hp⟩
  · intro p q hp hq
    unfold fs at hq ⊢
    rw [e (16 + p) (by omega)] at hq
    obtain ⟨h1, h2, h3, h4⟩ := wf_s hw hp hq
    rw [e (16 + q) (by omega), e2 52 (by omega) (by omega)]
    exact ⟨h1, h2, h3, h4⟩
  · intro k hk
    unfold fh fw fc
    rw [h (24 + k) (by omega)]
    by_cases hki : k = i
    · subst hki
      rw [if_pos rfl]
      exact hv
    · rw [if_neg (by omega)]; exact wf_q hw hk
  · intro p hp q
    by_cases hq : q < 8
    · rw [fhp_u hi h hp hq, decide_eq_true hq, Bool.true_and]
      have hlg := mn_lg hi
      by_cases hfq : fqi i p q
      · rw [ht p hp q hfq]
        have hne : ¬ p = q := by rcases hfq with z | z <;> omega
        rw [if_pos ⟨(fp_i hi hp hq hne).mpr hfq, hne⟩]
      · rw [ht2 p hp q hfq, wf_b hw hp, decide_eq_true hq, Bool.true_and, if_neg (fun z => hfq ((fp_i hi hp hq z.2).mp z.1))]
    · have hfq : ¬ fqi i p q := by
        have hlg := mn_lg hi
        intro z; rcases z with z | z <;> omega
      rw [ht2 p hp q hfq, wf_b hw hp, decide_eq_false hq]; rfl
theorem bit_pow {a b : Nat} : (2 ^ a).testBit b = decide (a = b) := Nat.testBit_two_pow
theorem fe_j {i j : Nat} (hi : i < 28) (hj : j < 56) : fe f i j = if j = 24 + i then 0 else f j := by
  unfold fe mr_u
  rw [if_neg (by omega), if_neg (by omega)]
theorem fb_j {i h w j : Nat} (hi : i < 28) (hj : j < 56) : fb f i h w j = if j = 24 + i then h + w * 128 else f j := by
  unfold fb mr_u
  rw [if_neg (by omega), if_neg (by omega)]
theorem fe_t {i p q : Nat} (hi : i < 28) (hp : p < 8) : (fe f i (56 + p)).testBit q = ((f (56 + p)).testBit q && !(decide (p = mn_l i ∧ q = mn_g i) || decide (p = mn_g i ∧ q = mn_l i))) := by
  have hlg := mn_lg hi
  unfold fe mr_u
  by_cases h1 : p = mn_g i
  · rw [if_pos (by omega), mn_d_bit, bit_pow, ← h1]
    rw [decide_eq_false (show ¬ (p = mn_l i ∧ q = p) by omega)]
    simp only [true_and, Bool.false_or]
    by_cases hq : q = mn_l i
    · rw [decide_eq_true hq, decide_eq_true hq.symm]
    · rw [decide_eq_false hq, decide_eq_false (fun z => hq z.symm)]
  · rw [if_neg (by omega)]
    by_cases h2 : p = mn_l i
    · rw [if_pos (by omega), mn_d_bit, bit_pow, ← h2]
      rw [decide_eq_false (show ¬ (p = mn_g i ∧ q = p) by omega)]
      simp only [true_and, Bool.or_false]
      by_cases hq : q = mn_g i
      · rw [decide_eq_true hq, decide_eq_true hq.symm]
      · rw [decide_eq_false hq, decide_eq_false (fun z => hq z.symm)]
    · rw [if_neg (by omega), if_neg (by omega), decide_eq_false (fun z => h2 z.1), decide_eq_false (fun z => h1 z.1)]
      simp
theorem fb_t {i h w p q : Nat} (hi : i < 28) (hp : p < 8) : (fb f i h w (56 + p)).testBit q = ((f (56 + p)).testBit q || (decide (p = mn_l i ∧ q = mn_g i) || decide (p = mn_g i ∧ q = mn_l i))) := by
  have hlg := mn_lg hi
  unfold fb mr_u
  by_cases h1 : p = mn_g i
  · rw [if_pos (by omega), Nat.testBit_or, bit_pow, ← h1]
    rw [decide_eq_false (show ¬ (p = mn_l i ∧ q = p) by omega)]
    simp only [true_and, Bool.false_or]
    by_cases hq : q = mn_l i
    · rw [decide_eq_true hq, decide_eq_true hq.symm]
    · rw [decide_eq_false hq, decide_eq_false (fun z => hq z.symm)]
  · rw [if_neg (by omega)]
    by_cases h2 : p = mn_l i
    · rw [if_pos (by omega), Nat.testBit_or, bit_pow, ← h2]
      rw [decide_eq_false (show ¬ (p = mn_g i ∧ q = p) by omega)]
      simp only [true_and, Bool.or_false]
      by_cases hq : q = mn_g i
      · rw [decide_eq_true hq, decide_eq_true hq.symm]
      · rw [decide_eq_false hq, decide_eq_false (fun z => hq z.symm)]
    · rw [if_neg (by omega), if_neg (by omega), decide_eq_false (fun z => h2 z.1), decide_eq_false (fun z => h1 z.1)]
      simp
theorem fqi_d {i p q : Nat} : (decide (p = mn_l i ∧ q = mn_g i) || decide (p = mn_g i ∧ q = mn_l i)) = true ↔ fqi i p q := by
  rw [Bool.or_eq_true, decide_eq_true_eq, decide_eq_true_eq]; rfl
theorem fqi_n {i p q : Nat} (h : ¬ fqi i p q) : (decide (p = mn_l i ∧ q = mn_g i) || decide (p = mn_g i ∧ q = mn_l i)) = false := by
  cases hb : (decide (p = mn_l i ∧ q = mn_g i) || decide (p = mn_g i ∧ q = mn_l i))
  · rfl
  · exact absurd (fqi_d.mp hb) h
theorem wf_fe {i : Nat} (hw : wf f L) (hi : i < 28) : wf (fe f i) L := wf_upd (v := 0) hw hi (fun j hj => fe_j hi hj) (fe_lt (wf_lt hw)) (Or.inl rfl) (fun p hp q hq => by rw [fe_t hi hp, fqi_d.mpr hq]; simp) (fun p hp q hq => by rw [fe_t hi hp, fqi_n hq]; simp)
theorem wf_fb {i h w : Nat} (hw : wf f L) (hi : i < 28) (h1 : 1 ≤ h) (h2 : h ≤ 99) (h3 : w ≤ 9) (h4 : L.testBit (mn_l i) = true) (h5 : L.testBit (mn_g i) = true) : wf (fb f i h w) L := wf_upd (v := h + w * 128) hw hi (fun j hj => fb_j hi hj) (fb_lt (wf_lt hw) hi (by omega) (by omega)) (Or.inr ⟨by omega, by omega, by omega, by omega, h4, h5⟩) (fun p hp q hq => by rw [fb_t hi hp, fqi_d.mpr hq, decide_eq_true (by omega)]; simp) (fun p hp q hq => by rw [fb_t hi hp, fqi_n hq]; simp)
theorem wf_ti {i p q : Nat} (hw : wf f L) (hi : i < 28) (hp : p < 8) (h0 : 0 < fh f i) (hq : fqi i p q) : (f (56 + p)).testBit q = true := by
  have hlg := mn_lg hi
  have hq8 : q < 8 := by rcases hq with z | z <;> omega
  have hne : ¬ p = q := by rcases hq with z | z <;> omega
  rw [wf_b hw hp, decide_eq_true hq8, Bool.true_and]
  unfold fhp
  rw [if_neg hne, (fp_i hi hp hq8 hne).mpr hq, decide_eq_true h0]
theorem wf_fsh {i h : Nat} (hw : wf f L) (hi : i < 28) (h0 : 0 < fh f i) (h1 : 1 ≤ h) (h2 : h ≤ 99) : wf (fsh f i h) L := by
  have hq := wf_q hw hi
  have hm := wf_m hw hi h0
  have hc := wf_c hw hi
  have hw9 := wf_wd hw hi
  unfold fc at hc
  unfold fw at hw9
  refine wf_upd (v := f (24 + i) / 128 * 128 + h) hw hi (fun j hj => rfl) (fsh_lt (wf_lt hw) (by omega)) (Or.inr ⟨by omega, by omega, by omega, by omega, hm.1, hm.2⟩) (fun p hp q hq => ?_) (fun p hp q hq => ?_)
  · show (mr_u f (24 + i) _ (56 + p)).testBit q = _
    rw [mu_ne (by omega), wf_ti hw hi hp h0 hq, decide_eq_true (by omega)]
  · show (mr_u f (24 + i) _ (56 + p)).testBit q = _
    rw [mu_ne (by omega)]
theorem fac_j {i j : Nat} : fac f i j = if j = 24 + i then (if fc f i < 99 then f (24 + i) + 2048 else f (24 + i)) else f j := by
  unfold fac
  by_cases h : fc f i < 99
  · rw [if_pos h, if_pos h]; rfl
  · rw [if_neg h, if_neg h]
    split
    · next hj => rw [hj]
    · rfl
theorem wf_fac {i : Nat} (hw : wf f L) (hi : i < 28) (h0 : 0 < fh f i) : wf (fac f i) L := by
  have hm := wf_m hw hi h0
  have hc := wf_c hw hi
  have hw9 := wf_wd hw hi
  have hh := wf_h hw hi
  have hl := wf_lt hw
  refine wf_upd (v := if fc f i < 99 then f (24 + i) + 2048 else f (24 + i)) hw hi (fun j hj => fac_j) ?_ (Or.inr ?_) (fun p hp q hq => ?_) (fun p hp q hq => ?_)
  · intro j
    rw [fac_j]
    have := hl j
    have := hl (24 + i)
    unfold fc at hc ⊢
    split
    · split <;> omega
    · omega
  · unfold fc at hc ⊢
    unfold fw at hw9
    unfold fh at hh h0
    split
    · exact ⟨by omega, by omega, by omega, by omega, hm.1, hm.2⟩
    · exact ⟨by omega, by omega, by omega, by omega, hm.1, hm.2⟩
  · rw [fac_j, if_neg (by omega), wf_ti hw hi hp h0 hq]
    unfold fh at h0
    rw [decide_eq_true]
    split <;> omega
  · rw [fac_j, if_neg (by omega)]
end
