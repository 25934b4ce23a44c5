/-! the row that a text builds: what holds of it; a PERSON, a WED, a QUARREL more -/
def GI (g : Nat → Nat) : Prop := wf g (g 52) ∧ g 52 = 2 ^ g 55 - 1 ∧ g 54 = 0 ∧ (∀ p, g 55 ≤ p → p < 8 → g p = 0 ∧ g (8 + p) = 0) ∧ (∀ i, i < 28 → fc g i = 0) ∧ g 64 = 0
section
variable {g : Nat → Nat}
theorem fad_j {nv dw : Nat} {b : Bool} : ∀ j, fad g nv dw b j = if j = 55 then g 55 + 1 else if j = 53 then g 53 ||| (if b then 2 ^ g 55 else 0) else if j = 52 then g 52 ||| 2 ^ g 55 else if j = 8 + g 55 then dw else if j = g 55 then nv else g j := fun j => rfl
theorem fad_m {nv dw : Nat} {b : Bool} (h8 : g 55 < 8) {j : Nat} (h : 16 ≤ j) (h1 : ¬ j = 52) (h2 : ¬ j = 53) (h3 : ¬ j = 55) : fad g nv dw b j = g j := by
  rw [fad_j, if_neg h3, if_neg h2, if_neg h1, if_neg (by omega), if_neg (by omega)]
theorem fad_52 {nv dw : Nat} {b : Bool} : fad g nv dw b 52 = g 52 ||| 2 ^ g 55 := rfl
theorem fad_53 {nv dw : Nat} {b : Bool} : fad g nv dw b 53 = g 53 ||| (if b then 2 ^ g 55 else 0) := rfl
theorem fad_55 {nv dw : Nat} {b : Bool} : fad g nv dw b 55 = g 55 + 1 := rfl
theorem p2s {a n : Nat} (h : a < 2 ^ n) : a < 2 ^ (n + 1) := Nat.lt_of_lt_of_le h (Nat.pow_le_pow_right (by decide) (Nat.le_succ n))
theorem p2l {n : Nat} : 2 ^ n < 2 ^ (n + 1) := Nat.pow_lt_pow_right (by decide) (Nat.lt_succ_self n)
theorem fad_a {nv dw : Nat} {b : Bool} (hw : wf g (g 52)) : fad g nv dw b 52 < 2 ^ (g 55 + 1) ∧ fad g nv dw b 53 < 2 ^ (g 55 + 1) := by
  refine ⟨by rw [fad_52]; exact Nat.or_lt_two_pow (p2s (wf_l hw)) p2l, ?_⟩
  rw [fad_53]
  refine Nat.or_lt_two_pow (p2s (wf_w hw)) ?_
  cases b
  · exact Nat.two_pow_pos _
  · exact p2l
theorem fad_bit {nv dw p : Nat} {b : Bool} (h : (g 52).testBit p = true) : (fad g nv dw b 52).testBit p = true := by
  rw [fad_52, Nat.testBit_or, h, Bool.true_or]
theorem wf_fad {nv dw : Nat} {b : Bool} (hw : wf g (g 52)) (h8 : g 55 < 8) (hn : nv ≤ 9) (hd : dw < 1024) : wf (fad g nv dw b) (fad g nv dw b 52) := by
  obtain ⟨a1, a2⟩ := fad_a (nv := nv) (dw := dw) (b := b) hw
  have le8 : 2 ^ (g 55 + 1) ≤ 256 := p8_le (by omega)
  have es : ∀ p, p < 8 → fs (fad g nv dw b) p = fs g p := by
    intro p hp
    unfold fs
    rw [fad_m h8 (by omega) (by omega) (by omega) (by omega)]
  have eq : ∀ i, i < 28 → fad g nv dw b (24 + i) = g (24 + i) := fun i hi => fad_m h8 (by omega) (by omega) (by omega) (by omega)
  have ep : ∀ p q, p < 8 → q < 8 → fhp (fad g nv dw b) p q = fhp g p q := by
    intro p q hp hq
    unfold fhp
    by_cases h : p = q
    · rw [if_pos h, if_pos h]
    · rw [if_neg h, if_neg h]
      unfold fh
      rw [eq _ (fp_lt hp hq h)]
  refine ⟨?_, by rw [fad_55]; omega, by rw [fad_55]; exact ⟨a1, a1, a2⟩, ?_, ?_, ?_, ?_⟩
  · intro j
    by_cases h52 : j = 52
    · subst h52; omega
    by_cases h53 : j = 53
    · subst h53; omega
    by_cases h55 : j = 55
    · subst h55; rw [fad_55]; omega
    rw [fad_j, if_neg h55, if_neg h53, if_neg h52]
    split
    · omega
    · split
      · omega
      · exact wf_lt hw j
  · intro p hp
    have h1 := wf_p hw hp
    have h2 := wf_d hw hp
    rw [fad_j p, fad_j (8 + p), if_neg (by omega), if_neg (by omega), if_neg (by omega), if_neg (show ¬ 8 + p = 55 by omega), if_neg (show ¬ 8 + p = 53 by omega), if_neg (show ¬ 8 + p = 52 by omega), if_neg (show ¬ p = 8 + g 55 by omega)]
    constructor
    · split
      · exact hn
      · exact h1
    · split
      · exact hd
      · rw [if_neg (by omega)]; exact h2
  · intro p q hp hq
    rw [es p hp] at hq
    obtain ⟨k1, k2, k3, k4⟩ := wf_s hw hp hq
    exact ⟨k1, k2, by rw [es q k1]; exact k3, fad_bit k4⟩
  · intro i hi
    unfold fh fw fc
    rw [eq i hi]
    rcases wf_q hw hi with h | ⟨k1, k2, k3, k4, k5, k6⟩
    · exact Or.inl h
    · exact Or.inr ⟨k1, k2, k3, k4, fad_bit k5, fad_bit k6⟩
  · intro p hp q
    rw [fad_m h8 (by omega) (by omega) (by omega) (by omega), wf_b hw hp q]
    by_cases h : q < 8
    · rw [ep p q hp h]
    · rw [decide_eq_false h]; rfl
theorem p2or {n : Nat} : (2 ^ n - 1) ||| 2 ^ n = 2 ^ (n + 1) - 1 := by
  apply Nat.eq_of_testBit_eq
  intro i
  rw [Nat.testBit_or, Nat.testBit_two_pow_sub_one, Nat.testBit_two_pow_sub_one, Nat.testBit_two_pow]
  by_cases h : n = i
  · subst h; simp
  · simp only [h, decide_false, Bool.or_false]
    exact decide_eq_decide.mpr (by omega)
theorem GI_fad {nv dw : Nat} {b : Bool} (h : GI g) (h8 : g 55 < 8) (hn : nv ≤ 9) (hd : dw < 1024) : GI (fad g nv dw b) := by
  obtain ⟨hw, h52, h54, hz, hc, h64⟩ := h
  refine ⟨wf_fad hw h8 hn hd, ?_, ?_, ?_, ?_, by rw [fad_m h8 (by omega) (by omega) (by omega) (by omega)]; exact h64⟩
  · rw [fad_52, fad_55, h52, p2or]
  · rw [fad_m h8 (by omega) (by omega) (by omega) (by omega)]; exact h54
  · intro p hp h
    rw [fad_55] at hp
    rw [fad_j p, fad_j (8 + p), if_neg (by omega), if_neg (by omega), if_neg (by omega), if_neg (by omega), if_neg (by omega), if_neg (show ¬ 8 + p = 55 by omega), if_neg (show ¬ 8 + p = 53 by omega), if_neg (show ¬ 8 + p = 52 by omega), if_neg (by omega), if_neg (by omega)]
    exact hz p (by omega) h
  · intro i hi
    unfold fc
    rw [fad_m h8 (by omega) (by omega) (by omega) (by omega)]
    exact hc i hi
theorem GI_0 : GI (fun _ => 0) := by
  refine ⟨⟨fun _ => Nat.zero_lt_of_lt (show 1 < 2147483648 by decide), by decide, by decide, fun _ _ => ⟨Nat.zero_le _, Nat.zero_lt_of_lt (show 1 < 1024 by decide)⟩, ?_, fun i _ => Or.inl rfl, ?_⟩, rfl, rfl, fun _ _ _ => ⟨rfl, rfl⟩, fun i _ => by unfold fc; exact Nat.zero_div _, rfl⟩
  · intro p q _ h
    cases h
  · intro p _ q
    have : fhp (fun _ => 0) p q = 0 := by unfold fhp fh; split <;> rfl
    rw [this, Nat.zero_testBit]
    simp
theorem GI_bit (h : GI g) {p : Nat} (hp : p < g 55) : (g 52).testBit p = true := by
  rw [h.2.1, Nat.testBit_two_pow_sub_one]; exact decide_eq_true hp
theorem fj_j {p q : Nat} (j : Nat) : fj g p q j = if j = 16 + q then p + 1 else if j = 16 + p then q + 1 else g j := rfl
theorem fj_o {p q : Nat} (hp : p < 8) (hq : q < 8) {j : Nat} (h : j < 16 ∨ 24 ≤ j) : fj g p q j = g j := by
  rw [fj_j, if_neg (by omega), if_neg (by omega)]
theorem GI_fj (h : GI g) {p q : Nat} (hp : p < 8) (hq : q < 8) (hc : fcm g p q = true) : GI (fj g p q) := by
  unfold fcm at hc
  rw [Bool.and_eq_true, Bool.and_eq_true, decide_eq_true_eq] at hc
  obtain ⟨hw, h52, h54, hz, hcc, h64⟩ := h
  have e : ∀ j, (j < 16 ∨ 24 ≤ j) → fj g p q j = g j := fun j hj => fj_o hp hq hj
  refine ⟨by rw [e 52 (by omega)]; exact wf_fj hw hp hq hc.1 hc.2.1 hc.2.2, by rw [e 52 (by omega), e 55 (by omega)]; exact h52, by rw [e 54 (by omega)]; exact h54, ?_, ?_, by rw [e 64 (by omega)]; exact h64⟩
  · intro p' h1 h2
    rw [e 55 (by omega)] at h1
    rw [e p' (by omega), e (8 + p') (by omega)]
    exact hz p' h1 h2
  · intro i hi
    unfold fc
    rw [e (24 + i) (by omega)]
    exact hcc i hi
theorem GI_fb (h : GI g) {p q a b : Nat} (hp : p < g 55) (hq : q < g 55) (hn : ¬ p = q) (h1 : 1 ≤ a) (h2 : a ≤ 99) (h3 : b ≤ 9) : GI (fb g (fp p q) a b) := by
  have hN := wf_n h.1
  have hp8 : p < 8 := by omega
  have hq8 : q < 8 := by omega
  have hi := fp_lt hp8 hq8 hn
  have b1 := GI_bit h hp
  have b2 := GI_bit h hq
  have hlg := fp_L hp8 hq8 hn b1 b2
  obtain ⟨hw, h52, h54, hz, hcc, h64⟩ := h
  have e : ∀ j, j < 56 → ¬ j = 24 + fp p q → fb g (fp p q) a b j = g j := fun j hj hj2 => by rw [fb_j hi hj, if_neg hj2]
  refine ⟨by rw [e 52 (by omega) (by omega)]; exact wf_fb hw hi h1 h2 h3 hlg.1 hlg.2, by rw [e 52 (by omega) (by omega), e 55 (by omega) (by omega)]; exact h52, by rw [e 54 (by omega) (by omega)]; exact h54, ?_, ?_, by rw [fb_64 hi]; exact h64⟩
  · intro p' k1 k2
    rw [e 55 (by omega) (by omega)] at k1
    rw [e p' (by omega) (by omega), e (8 + p') (by omega) (by omega)]
    exact hz p' k1 k2
  · intro i' hi'
    unfold fc
    rw [fb_j hi (by omega)]
    by_cases q : 24 + i' = 24 + fp p q
    · rw [if_pos q]; omega
    · rw [if_neg q]; exact hcc i' hi'
end
