/-! deaths and weddings: what they keep; by the reference -/
section
variable {f : Nat → Nat} {L : Nat}
/-- what isn't of pairs or ties, changed -/
theorem wf_chg {f' : Nat → Nat} {L' : Nat} (hw : wf f L) (hf : ∀ j, f' j < 2147483648) (h55 : f' 55 = f 55) (h3 : L' < 2 ^ f 55 ∧ f' 52 < 2 ^ f 55 ∧ f' 53 < 2 ^ f 55) (hp : ∀ p, p < 8 → f' p ≤ 9 ∧ f' (8 + p) < 1024) (hs : ∀ p q, p < 8 → fs f' p = some q → q < 8 ∧ ¬ q = p ∧ fs f' q = some p ∧ (f' 52).testBit p = true) (hq : ∀ i, i < 28 → f' (24 + i) = f (24 + i)) (hL : ∀ i, i < 28 → 0 < fh f i → L'.testBit (mn_l i) = true ∧ L'.testBit (mn_g i) = true) (ht : ∀ p, p < 8 → f' (56 + p) = f (56 + p)) : wf f' L' := by
  refine ⟨hf, ?_, ?_, hp, hs, ?_, ?_⟩
  · rw [h55]; exact wf_n hw
  · rw [h55]; exact h3
  · intro i hi
    unfold fh fw fc
    rw [hq i hi]
    rcases wf_q hw hi with h0 | h0
    · exact Or.inl h0
    · exact Or.inr ⟨h0.1, h0.2.1, h0.2.2.1, h0.2.2.2.1, hL i hi (by omega)⟩
  · intro p hp q
    have : ¬ q < 8 ∨ fhp f' p q = fhp f p q := by
      by_cases hq8 : q < 8
      · right
        unfold fhp
        by_cases he : p = q
        · rw [if_pos he, if_pos he]
        · rw [if_neg he, if_neg he]
          unfold fh
          rw [hq _ (fp_lt hp hq8 he)]
      · left; exact hq8
    rw [ht p hp, wf_b hw hp]
    rcases this with h | h
    · rw [decide_eq_false h]; rfl
    · rw [h]
theorem d_lt {a b n : Nat} (h : a < 2 ^ n) : mn_d a b < 2 ^ n := Nat.lt_of_le_of_lt (mn_d_le _ _) h
theorem fs_some {p q : Nat} : fs f p = some q ↔ f (16 + p) = q + 1 := by
  unfold fs
  split
  · constructor
    · intro h; cases h
    · intro h; omega
  · rw [Option.some.injEq]; omega
theorem fs_none {p : Nat} : fs f p = none ↔ f (16 + p) = 0 := by
  unfold fs
  split
  · simp_all
  · simp_all
theorem wf_bur0 (hw : wf f L) {p : Nat} (hp : p < 8) : wf (fbur0 f p) L := by
  have hl := wf_lt hw
  have h52 := wf_l hw
  unfold fbur0
  cases hsp : fs f p with
  | none =>
    dsimp only
    have e : ∀ j, ¬ j = 52 → ¬ j = 16 + p → mr_u (mr_u f 52 (mn_d (f 52) (2 ^ p))) (16 + p) 0 j = f j := fun j h1 h2 => by rw [mu_ne h2, mu_ne h1]
    have e52 : mr_u (mr_u f 52 (mn_d (f 52) (2 ^ p))) (16 + p) 0 52 = mn_d (f 52) (2 ^ p) := by rw [mu_ne (by omega), mu_eq]
    refine wf_chg hw (mu_lt (mu_lt hl (Nat.lt_of_le_of_lt (mn_d_le _ _) (hl 52))) (by decide)) (e 55 (by omega) (by omega)) ⟨wf_L hw, by rw [e52]; exact d_lt h52, by rw [e 53 (by omega) (by omega)]; exact wf_w hw⟩ (fun q hq => by rw [e q (by omega) (by omega), e (8 + q) (by omega) (by omega)]; exact ⟨wf_p hw hq, wf_d hw hq⟩) ?_ (fun i hi => e _ (by omega) (by omega)) (fun i hi h => wf_m hw hi h) (fun q hq => e _ (by omega) (by omega))
    intro a b ha hab
    rw [fs_some] at hab
    have hne : ¬ a = p := by
      intro h; subst h; rw [mu_eq] at hab; omega
    rw [e _ (by omega) (by omega), ← fs_some] at hab
    obtain ⟨h1, h2, h3, h4⟩ := wf_s hw ha hab
    have hbp : ¬ b = p := by
      intro h; subst h; rw [hsp] at h3; cases h3
    refine ⟨h1, h2, ?_, ?_⟩
    · rw [fs_some, e _ (by omega) (by omega), ← fs_some]; exact h3
    · rw [e52, mn_d_bit, h4, bit_pow, decide_eq_false (fun z => hne z.symm)]; rfl
  | some h =>
    dsimp only
    obtain ⟨k1, k2, k3, k4⟩ := wf_s hw hp hsp
    have e : ∀ j, ¬ j = 52 → ¬ j = 16 + p → ¬ j = 16 + h → ¬ j = 8 + h → mr_u (mr_u (mr_u (mr_u f 52 (mn_d (f 52) (2 ^ p))) (16 + p) 0) (16 + h) 0) (8 + h) (f (8 + h) ||| f (8 + p)) j = f j := fun j h1 h2 h3 h4 => by rw [mu_ne h4, mu_ne h3, mu_ne h2, mu_ne h1]
    have e52 : mr_u (mr_u (mr_u (mr_u f 52 (mn_d (f 52) (2 ^ p))) (16 + p) 0) (16 + h) 0) (8 + h) (f (8 + h) ||| f (8 + p)) 52 = mn_d (f 52) (2 ^ p) := by rw [mu_ne (by omega), mu_ne (by omega), mu_ne (by omega), mu_eq]
    refine wf_chg hw (mu_lt (mu_lt (mu_lt (mu_lt hl (Nat.lt_of_le_of_lt (mn_d_le _ _) (hl 52))) (by decide)) (by decide)) (mn_or31 (hl _) (hl _))) (e 55 (by omega) (by omega) (by omega) (by omega)) ⟨wf_L hw, by rw [e52]; exact d_lt h52, by rw [e 53 (by omega) (by omega) (by omega) (by omega)]; exact wf_w hw⟩ (fun q hq => ?_) ?_ (fun i hi => e _ (by omega) (by omega) (by omega) (by omega)) (fun i hi h => wf_m hw hi h) (fun q hq => e _ (by omega) (by omega) (by omega) (by omega))
    · rw [e q (by omega) (by omega) (by omega) (by omega)]
      refine ⟨wf_p hw hq, ?_⟩
      by_cases hqh : q = h
      · subst hqh; rw [mu_eq]
        exact Nat.or_lt_two_pow (n := 10) (wf_d hw hq) (wf_d hw hp)
      · rw [e _ (by omega) (by omega) (by omega) (by omega)]; exact wf_d hw hq
    · intro a b ha hab
      rw [fs_some] at hab
      have hne : ¬ a = p := by
        intro z; subst z; rw [mu_ne (by omega), mu_ne (by omega), mu_eq] at hab; omega
      have hne2 : ¬ a = h := by
        intro z; subst z; rw [mu_ne (by omega), mu_eq] at hab; omega
      rw [e _ (by omega) (by omega) (by omega) (by omega), ← fs_some] at hab
      obtain ⟨h1, h2, h3, h4⟩ := wf_s hw ha hab
      have hbp : ¬ b = p := by
        intro z; subst z; rw [hsp] at h3; cases h3; exact hne2 rfl
      have hbh : ¬ b = h := by
        intro z; subst z; rw [k3] at h3; cases h3; exact hne rfl
      refine ⟨h1, h2, ?_, ?_⟩
      · rw [fs_some, e _ (by omega) (by omega) (by omega) (by omega), ← fs_some]; exact h3
      · rw [e52, mn_d_bit, h4, bit_pow, decide_eq_false (fun z => hne z.symm)]; rfl
theorem fbur0_o {p j : Nat} (h1 : (24 ≤ j ∧ j < 52) ∨ 53 ≤ j ∨ j < 8) (hp : p < 8) (hh : ∀ b, fs f p = some b → b < 8) : fbur0 f p j = f j := by
  unfold fbur0
  cases hs : fs f p with
  | none => dsimp only; rw [mu_ne (by omega), mu_ne (by omega)]
  | some h =>
    have := hh h hs
    dsimp only
    rw [mu_ne (by omega), mu_ne (by omega), mu_ne (by omega), mu_ne (by omega)]
theorem fbur0_52 {p : Nat} (hp : p < 8) (hh : ∀ b, fs f p = some b → b < 8) : fbur0 f p 52 = mn_d (f 52) (2 ^ p) := by
  unfold fbur0
  cases hs : fs f p with
  | none => dsimp only; rw [mu_ne (by omega), mu_eq]
  | some h =>
    have := hh h hs
    dsimp only
    rw [mu_ne (by omega), mu_ne (by omega), mu_ne (by omega), mu_eq]
theorem wf_m2 (hw : wf f L) {p q : Nat} (hp : p < 8) (hq : q < 8) (hn : ¬ p = q) (h0 : 0 < fh f (fp p q)) : L.testBit p = true ∧ L.testBit q = true := by
  have := wf_mn hw hp hq (by unfold fhp; rw [if_neg hn]; exact h0)
  exact ⟨this.2.1, this.2.2.1⟩
theorem fp_L {p q : Nat} (hp : p < 8) (hq : q < 8) (hn : ¬ p = q) (h1 : L.testBit p = true) (h2 : L.testBit q = true) : L.testBit (mn_l (fp p q)) = true ∧ L.testBit (mn_g (fp p q)) = true := by
  rcases Nat.lt_or_ge p q with h | h
  · obtain ⟨e1, e2⟩ := fp_l h hq
    rw [e1, e2]; exact ⟨h1, h2⟩
  · rw [fp_comm]
    obtain ⟨e1, e2⟩ := fp_l (p := q) (q := p) (by omega) hp
    rw [e1, e2]; exact ⟨h2, h1⟩
theorem wf_fi (hw : wf f L) {p q h : Nat} (hp : p < 8) (hq : q < 8) (hh : h < 8) (hn : ¬ p = q) (hn2 : ¬ h = q) (h0 : 0 < fh f (fp p q)) (hL : L.testBit h = true) : wf (fi f (fp p q) (fp h q)) L := by
  have hl := fp_lt hp hq hn
  have hl2 := fp_lt hh hq hn2
  have hb := wf_h hw hl
  have hb2 := wf_h hw hl2
  unfold fi
  split
  · next h1 => exact wf_fsh hw hl2 h1 (by omega) (by omega)
  · have hm := wf_m2 hw hp hq hn h0
    have := fp_L hh hq hn2 hL hm.2
    exact wf_fb hw hl2 (by omega) hb (wf_wd hw hl) this.1 this.2
theorem wf_bs (hw : wf f L) {p q : Nat} {h : Option Nat} (hp : p < 8) (hq : q < 8) (hh : ∀ b, h = some b → b < 8 ∧ L.testBit b = true) : wf (fbs f p h q) L := by
  unfold fbs
  split
  · exact hw
  · next hn =>
    split
    · next h0 =>
      cases h with
      | none => exact wf_fe hw (fp_lt hp hq hn)
      | some b =>
        obtain ⟨h1, h2⟩ := hh b rfl
        dsimp only
        split
        · exact wf_fe hw (fp_lt hp hq hn)
        · next hbq => exact wf_fe (wf_fi hw hp hq h1 hn hbq h0 h2) (fp_lt hp hq hn)
    · exact hw
theorem fi_j {l o j : Nat} (ho : o < 28) (hj : j < 56) (hn : ¬ j = 24 + o) : fi f l o j = f j := by
  unfold fi
  split
  · unfold fsh; rw [mu_ne hn]
  · rw [fb_j ho hj, if_neg hn]
theorem fbs_o {p q j : Nat} {h : Option Nat} (hp : p < 8) (hq : q < 8) (hh : ∀ b, h = some b → b < 8) (hj : j < 24 ∨ (52 ≤ j ∧ j < 56)) : fbs f p h q j = f j := by
  unfold fbs
  split
  · rfl
  · next hn =>
    have hl := fp_lt hp hq hn
    split
    · rw [fe_j hl (by omega), if_neg (by omega)]
      cases h with
      | none => rfl
      | some b =>
        dsimp only
        split
        · rfl
        · next hbq =>
          have hl2 := fp_lt (hh b rfl) hq hbq
          rw [fi_j hl2 (by omega) (by omega)]
    · rfl
/-- what is left of the dead's -/
theorem fbs_p {p q q' : Nat} {h : Option Nat} (hp : p < 8) (hq : q < 8) (hq' : q' < 8) (hh : ∀ b, h = some b → b < 8 ∧ ¬ b = p) : fhp (fbs f p h q) p q' = if q' = q then 0 else fhp f p q' := by
  by_cases hpq' : p = q'
  · have e : ∀ g, fhp g p q' = 0 := fun g => by unfold fhp; rw [if_pos hpq']
    rw [e, e]; split <;> rfl
  · have ef : ∀ g, fhp g p q' = fh g (fp p q') := fun g => by unfold fhp; rw [if_neg hpq']
    rw [ef, ef]
    have hl' := fp_lt hp hq' hpq'
    unfold fbs
    by_cases hn : p = q
    · rw [if_pos hn, if_neg (by omega)]
    · rw [if_neg hn]
      have hl := fp_lt hp hq hn
      have hinj : fp p q' = fp p q ↔ q' = q := by
        constructor
        · intro z
          have := (fp_i hl hp hq' hpq').mp z
          have := (fp_i hl hp hq hn).mp rfl
          omega
        · intro z; rw [z]
      by_cases h0 : 0 < fh f (fp p q)
      · rw [if_pos h0]
        unfold fh
        rw [fe_j hl (by omega)]
        by_cases hqq : q' = q
        · rw [if_pos (by rw [hqq]), if_pos hqq]
        · rw [if_neg (fun z => hqq (hinj.mp (by omega))), if_neg hqq]
          cases h with
          | none => rfl
          | some b =>
            obtain ⟨h1, h2⟩ := hh b rfl
            dsimp only
            split
            · rfl
            · next hbq =>
              have hl2 := fp_lt h1 hq hbq
              rw [fi_j hl2 (by omega) (fun z => by
                have := (fp_i hl2 hp hq' hpq').mp (by omega)
                have := (fp_i hl2 h1 hq hbq).mp rfl
                omega)]
      · rw [if_neg h0]
        by_cases hqq : q' = q
        · rw [if_pos hqq, hqq]; omega
        · rw [if_neg hqq]
/-- the dead has no heir, or one who lives -/
theorem heir_ok (hw : wf f (f 52)) {p : Nat} (hp : p < 8) : ∀ b, fs f p = some b → b < 8 ∧ (f 52).testBit b = true ∧ ¬ b = p := by
  intro b hb
  obtain ⟨h1, h2, h3, h4⟩ := wf_s hw hp hb
  exact ⟨h1, (wf_s hw h1 h3).2.2.2, h2⟩
theorem bur_inv (hw : wf f (f 52)) {p : Nat} (hp : p < 8) : ∀ n, n ≤ 8 → wf (mr_it (fun q f' => fbs f' p (fs f p) q) n (fbur0 f p)) (f 52) ∧ (∀ q, q < n → fhp (mr_it (fun q f' => fbs f' p (fs f p) q) n (fbur0 f p)) p q = 0) ∧ (∀ j, j < 24 ∨ (52 ≤ j ∧ j < 56) → mr_it (fun q f' => fbs f' p (fs f p) q) n (fbur0 f p) j = fbur0 f p j)
  | 0, _ => ⟨wf_bur0 hw hp, fun q h => by omega, fun _ _ => rfl⟩
  | n + 1, hn => by
    obtain ⟨h1, h2, h3⟩ := bur_inv hw hp n (by omega)
    have hh := heir_ok hw hp
    rw [mr_it]
    refine ⟨wf_bs h1 hp (by omega) (fun b hb => ⟨(hh b hb).1, (hh b hb).2.1⟩), ?_, ?_⟩
    · intro q hq
      rw [fbs_p hp (by omega) (by omega) (fun b hb => ⟨(hh b hb).1, (hh b hb).2.2⟩)]
      by_cases he : q = n
      · rw [if_pos he]
      · rw [if_neg he]; exact h2 q (by omega)
    · intro j hj
      rw [fbs_o hp (by omega) (fun b hb => (hh b hb).1) hj]
      exact h3 j hj
theorem wf_bur (hw : wf f (f 52)) {p : Nat} (hp : p < 8) : wf (fbur f p) (fbur f p 52) ∧ fbur f p 52 = mn_d (f 52) (2 ^ p) ∧ (∀ j, j < 8 ∨ (53 ≤ j ∧ j < 56) → fbur f p j = f j) := by
  obtain ⟨h1, h2, h3⟩ := bur_inv hw hp 8 (Nat.le_refl 8)
  have hh := heir_ok hw hp
  have e52 : fbur f p 52 = mn_d (f 52) (2 ^ p) := (h3 52 (by omega)).trans (fbur0_52 hp (fun b hb => (hh b hb).1))
  refine ⟨?_, e52, fun j hj => (h3 j (by omega)).trans (fbur0_o (by omega) hp (fun b hb => (hh b hb).1))⟩
  have h1' : wf (fbur f p) (f 52) := h1
  refine wf_chg h1' (wf_lt h1') rfl ⟨wf_l h1', wf_l h1', wf_w h1'⟩ (fun q hq => ⟨wf_p h1' hq, wf_d h1' hq⟩) (fun a b ha hab => wf_s h1' ha hab) (fun _ _ => rfl) ?_ (fun _ _ => rfl)
  intro i hi h0
  have hm := wf_m h1' hi h0
  have hlg := mn_lg hi
  have key : ∀ a b, fqi i a b → a < 8 → b < 8 → ¬ a = b → ¬ a = p := by
    intro a b hab ha hb hne hap
    subst hap
    have := h2 b hb
    have e : fhp (fbur f a) a b = fh (fbur f a) i := by
      unfold fhp; rw [if_neg hne, (fp_i hi ha hb hne).mpr hab]
    have h2' : fhp (fbur f a) a b = 0 := h2 b hb
    omega
  have k1 := key (mn_l i) (mn_g i) (Or.inl ⟨rfl, rfl⟩) (by omega) (by omega) (by omega)
  have k2 := key (mn_g i) (mn_l i) (Or.inr ⟨rfl, rfl⟩) (by omega) (by omega) (by omega)
  rw [e52, mn_d_bit, mn_d_bit, hm.1, hm.2, bit_pow, bit_pow, decide_eq_false (fun z => k1 z.symm), decide_eq_false (fun z => k2 z.symm)]
  exact ⟨rfl, rfl⟩
theorem bur_n (hw : wf f (f 52)) {p : Nat} (hp : p < 8) : mr_it (fun q f' => fbs f' p (fs f p) q) (f 55) (fbur0 f p) = fbur f p := by
  have hh := heir_ok hw hp
  have h5 : fbur0 f p 55 = f 55 := fbur0_o (by omega) hp (fun b hb => (hh b hb).1)
  refine (mr_itA (n := f 55) (m := 8) (I := fun f' => wf f' (f 52) ∧ f' 55 = f 55) (wf_n hw) ?_ ?_ ⟨wf_bur0 hw hp, h5⟩).1.symm
  · intro q f' hq ⟨h1, h2⟩
    exact ⟨wf_bs h1 hp hq (fun b hb => ⟨(hh b hb).1, (hh b hb).2.1⟩), by rw [fbs_o hp hq (fun b hb => (hh b hb).1) (by omega)]; exact h2⟩
  · intro q f' hq1 hq ⟨h1, h2⟩
    have := fhp_n h1 hp hq (by omega)
    unfold fhp at this
    unfold fbs
    split
    · rfl
    · next hn =>
      rw [if_neg hn] at this
      rw [if_neg (by omega)]
/-- two are wed -/
theorem wf_fj (hw : wf f L) {p q : Nat} (hp : p < 8) (hq : q < 8) (hn : ¬ p = q) (h1 : fsg f p = true) (h2 : fsg f q = true) : wf (fj f p q) L := by
  have hl := wf_lt hw
  unfold fsg at h1 h2
  rw [Bool.and_eq_true, decide_eq_true_eq] at h1 h2
  have e : ∀ j, ¬ j = 16 + p → ¬ j = 16 + q → fj f p q j = f j := fun j a b => by unfold fj; rw [mu_ne b, mu_ne a]
  refine wf_chg hw (mu_lt (mu_lt hl (by omega)) (by omega)) (e 55 (by omega) (by omega)) ⟨wf_L hw, by rw [e 52 (by omega) (by omega)]; exact wf_l hw, by rw [e 53 (by omega) (by omega)]; exact wf_w hw⟩ (fun a ha => by rw [e a (by omega) (by omega), e (8 + a) (by omega) (by omega)]; exact ⟨wf_p hw ha, wf_d hw ha⟩) ?_ (fun i hi => e _ (by omega) (by omega)) (fun i hi h => wf_m hw hi h) (fun a ha => e _ (by omega) (by omega))
  intro a b ha hab
  rw [e 52 (by omega) (by omega)]
  rw [fs_some] at hab ⊢
  by_cases hap : a = p
  · subst hap
    have : b = q := by
      unfold fj at hab; rw [mu_ne (by omega), mu_eq] at hab; omega
    subst this
    refine ⟨hq, fun z => hn z.symm, ?_, h1.1⟩
    unfold fj; rw [mu_eq]
  · by_cases haq : a = q
    · subst haq
      have : b = p := by
        unfold fj at hab; rw [mu_eq] at hab; omega
      subst this
      refine ⟨hp, hn, ?_, h2.1⟩
      unfold fj; rw [mu_ne (by omega), mu_eq]
    · rw [e _ (by omega) (by omega), ← fs_some] at hab
      obtain ⟨k1, k2, k3, k4⟩ := wf_s hw ha hab
      have hbp : ¬ b = p := by
        intro z; subst z; rw [fs_some] at k3; omega
      have hbq : ¬ b = q := by
        intro z; subst z; rw [fs_some] at k3; omega
      refine ⟨k1, k2, ?_, k4⟩
      rw [e _ (by omega) (by omega), ← fs_some]; exact k3
end
section
variable {X : mj_X} {d : Nat} {s : mw_S} {f : Nat → Nat} {L : Nat}
theorem fi_64 {l o : Nat} (ho : o < 28) : fi f l o 64 = f 64 := by
  unfold fi
  split
  · exact fsh_64 ho
  · exact fb_64 ho
theorem fbs_64 {p q : Nat} {h : Option Nat} (hp : p < 8) (hq : q < 8) (hh : ∀ b, h = some b → b < 8) : fbs f p h q 64 = f 64 := by
  unfold fbs
  by_cases e : p = q
  · rw [if_pos e]
  · rw [if_neg e]
    split
    · rw [fe_64 (fp_lt hp hq e)]
      cases h with
      | none => rfl
      | some b =>
        dsimp only
        by_cases e2 : b = q
        · rw [if_pos e2]
        · rw [if_neg e2]; exact fi_64 (fp_lt (hh b rfl) hq e2)
    · rfl
theorem fbur_64 (hw : wf f (f 52)) {p : Nat} (hp : p < 8) : fbur f p 64 = f 64 := by
  have hh := heir_ok hw hp
  have e0 : fbur0 f p 64 = f 64 := fbur0_o (by omega) hp (fun b hb => (hh b hb).1)
  exact mr_it_inv (I := fun _ (f' : Nat → Nat) => f' 64 = f 64) e0 (fun q a hq h => (fbs_64 hp hq (fun b hb => (hh b hb).1)).trans h)
theorem c257 (hw : wf f (f 52)) {p : Nat} (h55 : 0 < f 55) (hp : p < 8) : mj_call X (d + 2) 257 [.ref 42, .int (nI p)] (mw_U (mp s f)) = some (.inl none, mw_U (mp s (fbur f p))) := by
  have hn := wf_n hw
  have hf := wf_lt hw
  have hh := heir_ok hw hp
  have key : ∀ l, mj_exec X (d + 2) 257 57 [some (.ref 42), some (.int (nI p)), some (.int (mo (fs f p))), some (.int (nI 0))] [] (mw_U (mp s (fbur0 f p))) = some (.inl none, mw_U (mp s (fbur f p))) ∨ l = 1 := by
    intro l
    left
    obtain ⟨hI, g, e⟩ := mr_for (E := fun i f' (_ : Unit) => mj_exec X (d + 2) 257 57 [some (.ref 42), some (.int (nI p)), some (.int (mo (fs f p))), some (.int (nI i))] [] (mw_U (mp s f'))) (F := fun q f' => fbs f' p (fs f p) q) (I := fun i f' => wf f' (f 52) ∧ f' 55 = f 55) (N := (f 55)) (by
      intro i f' l hi hI
      obtain ⟨hw', h5⟩ := hI
      have hi8 : i < 8 := by omega
      refine ⟨⟨wf_bs hw' hp hi8 (fun b hb => ⟨(hh b hb).1, (hh b hb).2.1⟩), by rw [fbs_o hp hi8 (fun b hb => (hh b hb).1) (by omega)]; exact h5⟩, (), ?_⟩
      have hg := gp_lt hp hi8
      rw [b257_57]
      unfold fbs
      by_cases h : p = i
      · subst h
        have e : fhp f' p p = 0 := by unfold fhp; rw [if_pos rfl]
        simp (disch := first | assumption | exact hf _ | omega) only [b257, b257_0, b257_26, b257_55, b257_67, b257_73, b257_76, b257_79, b257_84, b257_89, b257_96, b257_102, b257_105, b257_111, nI_add, mn_mul, mn_sub, mn_m1, mn_m8, mn_eq, mn_lt, mn_le, mn_eq0, mn_0eq, mn_lt0, mn_0lt, mn_le0, mn_0le, mn_eqm, mn_meq, mn_ltm, mn_mlt, mn_lem, mn_mle, mn_mm1, mn_mm2, mn_mm3, mn_mm4, mn_mm5, mn_mm6, mn_and, mn_or, mn_an, mn_shl, mn_shr, mn_div, mn_rem, mn_clamp, mn_in, mn_inm, mn_nz, mn_zo, mn_min, mn_max, mn_abs, mn_rfit, mn_cp, mn_les, mn_gre, mn_a127, mn_a15, mn_a1, mn_a255, mn_tn0, mn_tn0e, mn_tnr, mn_tnz, mr_get, mr_ne, mr_put, mu_ne, mu_eq, mj_bk_i, mj_bk_v, mj_bk_x, decide_eq_true_eq, decide_true, decide_false, Bool.false_eq_true, Bool.true_eq_false, reduceCtorEq, mt_le_t, mt_le_f, mt_lt_t, mt_lt_f, mt_eq_t, mt_eq_f, mt_ee, not_true_eq_false, not_false_eq_true, and_true, true_and, and_self, Nat.zero_add, Nat.add_zero, Nat.one_mul, Nat.mul_one, Nat.reduceAdd, Nat.reduceMul, Nat.reduceSub, Nat.reducePow, Nat.reduceDiv, Nat.reduceMod, ↓reduceIte, mp_h, mp_w, mp_c, mp_s, mp_d, mp_n, mp_54, mp_52, mp_55, mp_l, mp_o, mp_42, mp_45, gh_gp, gw_gp, gc_gp, mw_pne, Nat.or_zero, c229 hp hi8, e, Nat.lt_irrefl, h5]
      · have e : fhp f' p i = fh f' (fp p i) := by unfold fhp; rw [if_neg h]
        by_cases h2 : 0 < fh f' (fp p i)
        · cases hs : fs f p with
          | none => simp (disch := first | assumption | exact hf _ | omega) only [b257, b257_0, b257_26, b257_55, b257_67, b257_73, b257_76, b257_79, b257_84, b257_89, b257_96, b257_102, b257_105, b257_111, nI_add, mn_mul, mn_sub, mn_m1, mn_m8, mn_eq, mn_lt, mn_le, mn_eq0, mn_0eq, mn_lt0, mn_0lt, mn_le0, mn_0le, mn_eqm, mn_meq, mn_ltm, mn_mlt, mn_lem, mn_mle, mn_mm1, mn_mm2, mn_mm3, mn_mm4, mn_mm5, mn_mm6, mn_and, mn_or, mn_an, mn_shl, mn_shr, mn_div, mn_rem, mn_clamp, mn_in, mn_inm, mn_nz, mn_zo, mn_min, mn_max, mn_abs, mn_rfit, mn_cp, mn_les, mn_gre, mn_a127, mn_a15, mn_a1, mn_a255, mn_tn0, mn_tn0e, mn_tnr, mn_tnz, mr_get, mr_ne, mr_put, mu_ne, mu_eq, mj_bk_i, mj_bk_v, mj_bk_x, decide_eq_true_eq, decide_true, decide_false, Bool.false_eq_true, Bool.true_eq_false, reduceCtorEq, mt_le_t, mt_le_f, mt_lt_t, mt_lt_f, mt_eq_t, mt_eq_f, mt_ee, not_true_eq_false, not_false_eq_true, and_true, true_and, and_self, Nat.zero_add, Nat.add_zero, Nat.one_mul, Nat.mul_one, Nat.reduceAdd, Nat.reduceMul, Nat.reduceSub, Nat.reducePow, Nat.reduceDiv, Nat.reduceMod, ↓reduceIte, mp_h, mp_w, mp_c, mp_s, mp_d, mp_n, mp_54, mp_52, mp_55, mp_l, mp_o, mp_42, mp_45, gh_gp, gw_gp, gc_gp, mw_pne, Nat.or_zero, c229 hp hi8, e, h, h2, h5, mo, c222 hp hi8, c255' hp hi8 h]
          | some b =>
            obtain ⟨hb1, hb2, hb3⟩ := hh b hs
            by_cases h3 : b = i
            · subst h3
              simp (disch := first | assumption | exact hf _ | omega) only [b257, b257_0, b257_26, b257_55, b257_67, b257_73, b257_76, b257_79, b257_84, b257_89, b257_96, b257_102, b257_105, b257_111, nI_add, mn_mul, mn_sub, mn_m1, mn_m8, mn_eq, mn_lt, mn_le, mn_eq0, mn_0eq, mn_lt0, mn_0lt, mn_le0, mn_0le, mn_eqm, mn_meq, mn_ltm, mn_mlt, mn_lem, mn_mle, mn_mm1, mn_mm2, mn_mm3, mn_mm4, mn_mm5, mn_mm6, mn_and, mn_or, mn_an, mn_shl, mn_shr, mn_div, mn_rem, mn_clamp, mn_in, mn_inm, mn_nz, mn_zo, mn_min, mn_max, mn_abs, mn_rfit, mn_cp, mn_les, mn_gre, mn_a127, mn_a15, mn_a1, mn_a255, mn_tn0, mn_tn0e, mn_tnr, mn_tnz, mr_get, mr_ne, mr_put, mu_ne, mu_eq, mj_bk_i, mj_bk_v, mj_bk_x, decide_eq_true_eq, decide_true, decide_false, Bool.false_eq_true, Bool.true_eq_false, reduceCtorEq, mt_le_t, mt_le_f, mt_lt_t, mt_lt_f, mt_eq_t, mt_eq_f, mt_ee, not_true_eq_false, not_false_eq_true, and_true, true_and, and_self, Nat.zero_add, Nat.add_zero, Nat.one_mul, Nat.mul_one, Nat.reduceAdd, Nat.reduceMul, Nat.reduceSub, Nat.reducePow, Nat.reduceDiv, Nat.reduceMod, ↓reduceIte, mp_h, mp_w, mp_c, mp_s, mp_d, mp_n, mp_54, mp_52, mp_55, mp_l, mp_o, mp_42, mp_45, gh_gp, gw_gp, gc_gp, mw_pne, Nat.or_zero, c229 hp hi8, e, h, h2, h5, mo, c222 hp hi8, c255' hp hi8 h]
            · have h3' : ¬ i = b := fun z => h3 z.symm
              simp (disch := first | assumption | exact hf _ | omega) only [b257, b257_0, b257_26, b257_55, b257_67, b257_73, b257_76, b257_79, b257_84, b257_89, b257_96, b257_102, b257_105, b257_111, nI_add, mn_mul, mn_sub, mn_m1, mn_m8, mn_eq, mn_lt, mn_le, mn_eq0, mn_0eq, mn_lt0, mn_0lt, mn_le0, mn_0le, mn_eqm, mn_meq, mn_ltm, mn_mlt, mn_lem, mn_mle, mn_mm1, mn_mm2, mn_mm3, mn_mm4, mn_mm5, mn_mm6, mn_and, mn_or, mn_an, mn_shl, mn_shr, mn_div, mn_rem, mn_clamp, mn_in, mn_inm, mn_nz, mn_zo, mn_min, mn_max, mn_abs, mn_rfit, mn_cp, mn_les, mn_gre, mn_a127, mn_a15, mn_a1, mn_a255, mn_tn0, mn_tn0e, mn_tnr, mn_tnz, mr_get, mr_ne, mr_put, mu_ne, mu_eq, mj_bk_i, mj_bk_v, mj_bk_x, decide_eq_true_eq, decide_true, decide_false, Bool.false_eq_true, Bool.true_eq_false, reduceCtorEq, mt_le_t, mt_le_f, mt_lt_t, mt_lt_f, mt_eq_t, mt_eq_f, mt_ee, not_true_eq_false, not_false_eq_true, and_true, true_and, and_self, Nat.zero_add, Nat.add_zero, Nat.one_mul, Nat.mul_one, Nat.reduceAdd, Nat.reduceMul, Nat.reduceSub, Nat.reducePow, Nat.reduceDiv, Nat.reduceMod, ↓reduceIte, mp_h, mp_w, mp_c, mp_s, mp_d, mp_n, mp_54, mp_52, mp_55, mp_l, mp_o, mp_42, mp_45, gh_gp, gw_gp, gc_gp, mw_pne, Nat.or_zero, c229 hp hi8, e, h, h2, h3, h3', h5, mo, c258 hp hb1 hi8 h h3, c222 hp hi8, c255' hp hi8 h]
        · simp (disch := first | assumption | exact hf _ | omega) only [b257, b257_0, b257_26, b257_55, b257_67, b257_73, b257_76, b257_79, b257_84, b257_89, b257_96, b257_102, b257_105, b257_111, nI_add, mn_mul, mn_sub, mn_m1, mn_m8, mn_eq, mn_lt, mn_le, mn_eq0, mn_0eq, mn_lt0, mn_0lt, mn_le0, mn_0le, mn_eqm, mn_meq, mn_ltm, mn_mlt, mn_lem, mn_mle, mn_mm1, mn_mm2, mn_mm3, mn_mm4, mn_mm5, mn_mm6, mn_and, mn_or, mn_an, mn_shl, mn_shr, mn_div, mn_rem, mn_clamp, mn_in, mn_inm, mn_nz, mn_zo, mn_min, mn_max, mn_abs, mn_rfit, mn_cp, mn_les, mn_gre, mn_a127, mn_a15, mn_a1, mn_a255, mn_tn0, mn_tn0e, mn_tnr, mn_tnz, mr_get, mr_ne, mr_put, mu_ne, mu_eq, mj_bk_i, mj_bk_v, mj_bk_x, decide_eq_true_eq, decide_true, decide_false, Bool.false_eq_true, Bool.true_eq_false, reduceCtorEq, mt_le_t, mt_le_f, mt_lt_t, mt_lt_f, mt_eq_t, mt_eq_f, mt_ee, not_true_eq_false, not_false_eq_true, and_true, true_and, and_self, Nat.zero_add, Nat.add_zero, Nat.one_mul, Nat.mul_one, Nat.reduceAdd, Nat.reduceMul, Nat.reduceSub, Nat.reducePow, Nat.reduceDiv, Nat.reduceMod, ↓reduceIte, mp_h, mp_w, mp_c, mp_s, mp_d, mp_n, mp_54, mp_52, mp_55, mp_l, mp_o, mp_42, mp_45, gh_gp, gw_gp, gc_gp, mw_pne, Nat.or_zero, c229 hp hi8, e, h, h2, h5]
    ) (a := (fbur0 f p)) ⟨wf_bur0 hw hp, fbur0_o (by omega) hp (fun b hb => (hh b hb).1)⟩ () (f 55) (Nat.le_refl (f 55))
    refine e.trans ?_
    obtain ⟨hI1, hI2⟩ := hI
    rw [b257_57]
    rw [bur_n hw hp] at hI2 ⊢
    simp (disch := first | assumption | exact hf _ | omega) only [b257, b257_0, b257_26, b257_55, b257_67, b257_73, b257_76, b257_79, b257_84, b257_89, b257_96, b257_102, b257_105, b257_111, nI_add, mn_mul, mn_sub, mn_m1, mn_m8, mn_eq, mn_lt, mn_le, mn_eq0, mn_0eq, mn_lt0, mn_0lt, mn_le0, mn_0le, mn_eqm, mn_meq, mn_ltm, mn_mlt, mn_lem, mn_mle, mn_mm1, mn_mm2, mn_mm3, mn_mm4, mn_mm5, mn_mm6, mn_and, mn_or, mn_an, mn_shl, mn_shr, mn_div, mn_rem, mn_clamp, mn_in, mn_inm, mn_nz, mn_zo, mn_min, mn_max, mn_abs, mn_rfit, mn_cp, mn_les, mn_gre, mn_a127, mn_a15, mn_a1, mn_a255, mn_tn0, mn_tn0e, mn_tnr, mn_tnz, mr_get, mr_ne, mr_put, mu_ne, mu_eq, mj_bk_i, mj_bk_v, mj_bk_x, decide_eq_true_eq, decide_true, decide_false, Bool.false_eq_true, Bool.true_eq_false, reduceCtorEq, mt_le_t, mt_le_f, mt_lt_t, mt_lt_f, mt_eq_t, mt_eq_f, mt_ee, not_true_eq_false, not_false_eq_true, and_true, true_and, and_self, Nat.zero_add, Nat.add_zero, Nat.one_mul, Nat.mul_one, Nat.reduceAdd, Nat.reduceMul, Nat.reduceSub, Nat.reducePow, Nat.reduceDiv, Nat.reduceMod, ↓reduceIte, mp_h, mp_w, mp_c, mp_s, mp_d, mp_n, mp_54, mp_52, mp_55, mp_l, mp_o, mp_42, mp_45, gh_gp, gw_gp, gc_gp, mw_pne, Nat.or_zero, hI2]
  have key2 : mj_exec X (d + 2) 257 57 [some (.ref 42), some (.int (nI p)), some (.int (mo (fs f p))), some (.int (nI 0))] [] (mw_U (mp s (fbur0 f p))) = some (.inl none, mw_U (mp s (fbur f p))) := (key 0).resolve_right (by decide)
  have h16 := hf (16 + p)
  unfold fbur0 at key2
  cases hs : fs f p with
  | none =>
    rw [hs] at key2
    have e16 : mp s (mr_u (mr_u f 52 (mn_d (f 52) (2 ^ p))) (16 + p) 0) = mp s (mr_u f 52 (mn_d (f 52) (2 ^ p))) := mp_ext (fun j hj => by
      unfold mr_u
      split
      · next h => rw [if_neg (by omega), h]; exact (fs_none.mp hs).symm
      · rfl) (by rw [mu_ne (by omega)])
    dsimp only at key2
    rw [e16] at key2
    simp (disch := first | assumption | exact hf _ | omega) only [b257, b257_0, b257_26, b257_55, b257_67, b257_73, b257_76, b257_79, b257_84, b257_89, b257_96, b257_102, b257_105, b257_111, nI_add, mn_mul, mn_sub, mn_m1, mn_m8, mn_eq, mn_lt, mn_le, mn_eq0, mn_0eq, mn_lt0, mn_0lt, mn_le0, mn_0le, mn_eqm, mn_meq, mn_ltm, mn_mlt, mn_lem, mn_mle, mn_mm1, mn_mm2, mn_mm3, mn_mm4, mn_mm5, mn_mm6, mn_and, mn_or, mn_an, mn_shl, mn_shr, mn_div, mn_rem, mn_clamp, mn_in, mn_inm, mn_nz, mn_zo, mn_min, mn_max, mn_abs, mn_rfit, mn_cp, mn_les, mn_gre, mn_a127, mn_a15, mn_a1, mn_a255, mn_tn0, mn_tn0e, mn_tnr, mn_tnz, mr_get, mr_ne, mr_put, mu_ne, mu_eq, mj_bk_i, mj_bk_v, mj_bk_x, decide_eq_true_eq, decide_true, decide_false, Bool.false_eq_true, Bool.true_eq_false, reduceCtorEq, mt_le_t, mt_le_f, mt_lt_t, mt_lt_f, mt_eq_t, mt_eq_f, mt_ee, not_true_eq_false, not_false_eq_true, and_true, true_and, and_self, Nat.zero_add, Nat.add_zero, Nat.one_mul, Nat.mul_one, Nat.reduceAdd, Nat.reduceMul, Nat.reduceSub, Nat.reducePow, Nat.reduceDiv, Nat.reduceMod, ↓reduceIte, mp_h, mp_w, mp_c, mp_s, mp_d, mp_n, mp_54, mp_52, mp_55, mp_l, mp_o, mp_42, mp_45, gh_gp, gw_gp, gc_gp, mw_pne, Nat.or_zero, mp_w52, hs, mo]
    exact key2
  | some b =>
    obtain ⟨hb1, hb2, hb3⟩ := hh b hs
    rw [hs] at key2
    have e16 : mp s (mr_u (mr_u (mr_u (mr_u f 52 (mn_d (f 52) (2 ^ p))) (8 + b) (f (8 + b) ||| f (8 + p))) (16 + b) 0) (16 + p) 0) = mp s (mr_u (mr_u (mr_u (mr_u f 52 (mn_d (f 52) (2 ^ p))) (16 + p) 0) (16 + b) 0) (8 + b) (f (8 + b) ||| f (8 + p))) := mp_ext (fun j hj => by
      unfold mr_u
      repeat' split
      all_goals first | rfl | omega) (by rw [mu_ne (by omega), mu_ne (by omega), mu_ne (by omega), mu_ne (by omega), mu_ne (by omega), mu_ne (by omega), mu_ne (by omega), mu_ne (by omega)])
    dsimp only at key2
    rw [← e16] at key2
    have hv : 0 < mr_u f 52 (mn_d (f 52) (2 ^ p)) 55 := by rw [mu_ne (by omega)]; exact h55
    have hv2 : 0 < mr_u (mr_u f 52 (mn_d (f 52) (2 ^ p))) (8 + b) (f (8 + b) ||| f (8 + p)) 55 := by rw [mu_ne (by omega)]; exact hv
    have hv3 : 0 < mr_u (mr_u (mr_u f 52 (mn_d (f 52) (2 ^ p))) (8 + b) (f (8 + b) ||| f (8 + p))) (16 + b) 0 55 := by rw [mu_ne (by omega)]; exact hv2
    simp (disch := first | assumption | exact hf _ | omega) only [b257, b257_0, b257_26, b257_55, b257_67, b257_73, b257_76, b257_79, b257_84, b257_89, b257_96, b257_102, b257_105, b257_111, nI_add, mn_mul, mn_sub, mn_m1, mn_m8, mn_eq, mn_lt, mn_le, mn_eq0, mn_0eq, mn_lt0, mn_0lt, mn_le0, mn_0le, mn_eqm, mn_meq, mn_ltm, mn_mlt, mn_lem, mn_mle, mn_mm1, mn_mm2, mn_mm3, mn_mm4, mn_mm5, mn_mm6, mn_and, mn_or, mn_an, mn_shl, mn_shr, mn_div, mn_rem, mn_clamp, mn_in, mn_inm, mn_nz, mn_zo, mn_min, mn_max, mn_abs, mn_rfit, mn_cp, mn_les, mn_gre, mn_a127, mn_a15, mn_a1, mn_a255, mn_tn0, mn_tn0e, mn_tnr, mn_tnz, mr_get, mr_ne, mr_put, mu_ne, mu_eq, mj_bk_i, mj_bk_v, mj_bk_x, decide_eq_true_eq, decide_true, decide_false, Bool.false_eq_true, Bool.true_eq_false, reduceCtorEq, mt_le_t, mt_le_f, mt_lt_t, mt_lt_f, mt_eq_t, mt_eq_f, mt_ee, not_true_eq_false, not_false_eq_true, and_true, true_and, and_self, Nat.zero_add, Nat.add_zero, Nat.one_mul, Nat.mul_one, Nat.reduceAdd, Nat.reduceMul, Nat.reduceSub, Nat.reducePow, Nat.reduceDiv, Nat.reduceMod, ↓reduceIte, mp_h, mp_w, mp_c, mp_s, mp_d, mp_n, mp_54, mp_52, mp_55, mp_l, mp_o, mp_42, mp_45, gh_gp, gw_gp, gc_gp, mw_pne, Nat.or_zero, mp_w52, mp_w58, mp_w57m, mu_ne, hs, mo]
    exact key2
end
