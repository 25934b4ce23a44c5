/-! the reference's memory, as a picture of the same row f -/
def gp (p q : Nat) : Nat := 8 * min p q + max p q
def gh (f : Nat → Nat) (b : Nat) : Nat := if b / 8 < b % 8 then fh f (fp (b / 8) (b % 8)) else 0
def gw (f : Nat → Nat) (b : Nat) : Nat := if b / 8 < b % 8 then fw f (fp (b / 8) (b % 8)) else 0
def gc (f : Nat → Nat) (b : Nat) : Nat := if b / 8 < b % 8 then fc f (fp (b / 8) (b % 8)) else 0
def fwp (f : Nat → Nat) (p q : Nat) : Nat := if p = q then 0 else fw f (fp p q)
theorem gp_lt {p q : Nat} (hp : p < 8) (hq : q < 8) : gp p q < 64 := by unfold gp; omega
theorem gp_comm {p q : Nat} : gp p q = gp q p := by unfold gp; omega
theorem gp_d {p q : Nat} (hp : p < 8) (hq : q < 8) : gp p q / 8 = min p q ∧ gp p q % 8 = max p q := by unfold gp; omega
theorem fp_mm {p q : Nat} : fp (min p q) (max p q) = fp p q := by
  rcases Nat.lt_or_ge p q with h | h
  · rw [Nat.min_eq_left (by omega), Nat.max_eq_right (by omega)]
  · rw [Nat.min_eq_right h, Nat.max_eq_left h, fp_comm]
section
variable {f : Nat → Nat} {p q : Nat}
theorem gh_gp (hp : p < 8) (hq : q < 8) : gh f (gp p q) = fhp f p q := by
  unfold gh fhp
  obtain ⟨e1, e2⟩ := gp_d hp hq
  rw [e1, e2, fp_mm]
  by_cases h : p = q
  · rw [if_neg (by omega), if_pos h]
  · rw [if_pos (by omega), if_neg h]
theorem gw_gp (hp : p < 8) (hq : q < 8) : gw f (gp p q) = fwp f p q := by
  unfold gw fwp
  obtain ⟨e1, e2⟩ := gp_d hp hq
  rw [e1, e2, fp_mm]
  by_cases h : p = q
  · rw [if_neg (by omega), if_pos h]
  · rw [if_pos (by omega), if_neg h]
theorem gc_gp (hp : p < 8) (hq : q < 8) : gc f (gp p q) = fcp f p q := by
  unfold gc fcp
  obtain ⟨e1, e2⟩ := gp_d hp hq
  rw [e1, e2, fp_mm]
  by_cases h : p = q
  · rw [if_neg (by omega), if_pos h]
  · rw [if_pos (by omega), if_neg h]
end
theorem gp_fp : ∀ {b p q : Nat}, b < 64 → p < 8 → q < 8 → ¬ p = q → b / 8 < b % 8 → (fp (b / 8) (b % 8) = fp p q ↔ b = gp p q) := by
  have : ∀ b, b < 64 → ∀ p, p < 8 → ∀ q, q < 8 → (p == q || decide (b % 8 ≤ b / 8) || ((fp (b / 8) (b % 8) == fp p q) == (b == gp p q))) = true := by decide +kernel
  intro b p q h1 h2 h3 h4 h5
  have h := this b h1 p h2 q h3
  rw [Bool.or_eq_true, Bool.or_eq_true, beq_iff_eq, beq_iff_eq, decide_eq_true_eq] at h
  rcases h with (h | h) | h
  · exact absurd h h4
  · omega
  · rw [Bool.eq_iff_iff, beq_iff_eq, beq_iff_eq] at h
    exact h
/-- to whom one is wed; a reference that was told nothing (64) has noughts there -/
def sp (f : Nat → Nat) (b : Nat) : Int32 := if f 64 = 1 ∧ f 55 = 0 then nI 0 else mo (fs f b)
theorem sp_f {f : Nat → Nat} {b : Nat} (h : ¬ (f 64 = 1 ∧ f 55 = 0)) : sp f b = mo (fs f b) := if_neg h
theorem sp_n {f : Nat → Nat} {b : Nat} (h : 0 < f 55) : sp f b = mo (fs f b) := if_neg (fun z => by omega)
/-- rows: heat, words, cuts; the rest by f -/
def mq (s : mw_S) (H W C f : Nat → Nat) : mw_S := (fun a b =>
  if a = 59 ∧ b < 64 then nI (H b) else if a = 60 ∧ b < 64 then nI (W b) else if a = 61 ∧ b < 64 then nI (C b)
  else if a = 57 ∧ b < 8 then sp f b else if a = 58 ∧ b < 8 then nI (f (8 + b)) else if a = 55 ∧ b < 8 then nI (f b)
  else if a = 42 ∧ b = 32 then nI (f 54) else if a = 42 ∧ b = 33 then nI (f 52) else if a = 45 ∧ b = 0 then nI (f 55)
  else if a = 46 ∧ b < f 55 then nI ((f 53).testBit b).toNat else s.1 a b, s.2)
def mp (s : mw_S) (f : Nat → Nat) : mw_S := mq s (gh f) (gw f) (gc f) f
section
variable {s : mw_S} {H W C f : Nat → Nat}
theorem mq_h {b : Nat} (h : b < 64) : (mq s H W C f).1 59 b = nI (H b) := by unfold mq; simp only [h, and_self, if_true]
theorem mq_w {b : Nat} (h : b < 64) : (mq s H W C f).1 60 b = nI (W b) := by unfold mq; simp [h]
theorem mq_c {b : Nat} (h : b < 64) : (mq s H W C f).1 61 b = nI (C b) := by unfold mq; simp [h]
theorem mq_s {b : Nat} (h : b < 8) : (mq s H W C f).1 57 b = sp f b := by unfold mq; simp [h]
theorem mq_d {b : Nat} (h : b < 8) : (mq s H W C f).1 58 b = nI (f (8 + b)) := by unfold mq; simp [h]
theorem mq_n {b : Nat} (h : b < 8) : (mq s H W C f).1 55 b = nI (f b) := by unfold mq; simp [h]
theorem mq_54 : (mq s H W C f).1 42 32 = nI (f 54) := by unfold mq; simp
theorem mq_52 : (mq s H W C f).1 42 33 = nI (f 52) := by unfold mq; simp
theorem mq_55 : (mq s H W C f).1 45 0 = nI (f 55) := by unfold mq; simp
theorem mq_l {b : Nat} (h : b < f 55) : (mq s H W C f).1 46 b = nI ((f 53).testBit b).toNat := by unfold mq; simp [h]
theorem mq_o {a b : Nat} (h : ¬ a = 59 ∧ ¬ a = 60 ∧ ¬ a = 61 ∧ ¬ a = 57 ∧ ¬ a = 58 ∧ ¬ a = 55 ∧ ¬ a = 42 ∧ ¬ a = 45 ∧ ¬ a = 46) : (mq s H W C f).1 a b = s.1 a b := by unfold mq; simp [h]
theorem mq_42 {b : Nat} (h : ¬ b = 32 ∧ ¬ b = 33) : (mq s H W C f).1 42 b = s.1 42 b := by unfold mq; simp [h]
theorem mq_45 {b : Nat} (h : ¬ b = 0) : (mq s H W C f).1 45 b = s.1 45 b := by unfold mq; simp [h]
theorem mq_ext {H' W' C' f' : Nat → Nat} (h1 : ∀ b, b < 64 → H b = H' b) (h2 : ∀ b, b < 64 → W b = W' b) (h3 : ∀ b, b < 64 → C b = C' b) (h4 : ∀ j, j < 24 → f j = f' j) (h5 : f 52 = f' 52 ∧ f 53 = f' 53 ∧ f 54 = f' 54 ∧ f 55 = f' 55) (h6 : f 64 = f' 64) : mq s H W C f = mq s H' W' C' f' := by
  refine Prod.ext ?_ rfl
  funext a b
  unfold mq
  obtain ⟨e2, e3, e4, e5⟩ := h5
  simp only [e2, e3, e4, e5]
  by_cases c1 : a = 59 ∧ b < 64
  · rw [if_pos c1, if_pos c1, h1 b c1.2]
  rw [if_neg c1, if_neg c1]
  by_cases c2 : a = 60 ∧ b < 64
  · rw [if_pos c2, if_pos c2, h2 b c2.2]
  rw [if_neg c2, if_neg c2]
  by_cases c3 : a = 61 ∧ b < 64
  · rw [if_pos c3, if_pos c3, h3 b c3.2]
  rw [if_neg c3, if_neg c3]
  by_cases c4 : a = 57 ∧ b < 8
  · rw [if_pos c4, if_pos c4]
    unfold sp fs
    rw [h4 (16 + b) (by omega), h6, e5]
  rw [if_neg c4, if_neg c4]
  by_cases c5 : a = 58 ∧ b < 8
  · rw [if_pos c5, if_pos c5, h4 (8 + b) (by omega)]
  rw [if_neg c5, if_neg c5]
  by_cases c6 : a = 55 ∧ b < 8
  · rw [if_pos c6, if_pos c6, h4 b (by omega)]
  rw [if_neg c6, if_neg c6]
theorem mq_w59 {k v : Nat} (hk : k < 64) : mw_p (mq s H W C f) 59 k (nI v) = mq s (mr_u H k v) W C f := by
  refine Prod.ext ?_ rfl
  funext a b
  show (if a = 59 ∧ b = k then nI v else (mq s H W C f).1 a b) = _
  unfold mq mr_u
  by_cases ha : a = 59
  · subst ha
    by_cases hb : b = k
    · subst hb; simp [hk]
    · simp [hb]
  · simp [ha]
theorem mq_w60 {k v : Nat} (hk : k < 64) : mw_p (mq s H W C f) 60 k (nI v) = mq s H (mr_u W k v) C f := by
  refine Prod.ext ?_ rfl
  funext a b
  show (if a = 60 ∧ b = k then nI v else (mq s H W C f).1 a b) = _
  unfold mq mr_u
  by_cases ha : a = 60
  · subst ha
    by_cases hb : b = k
    · subst hb; simp [hk]
    · simp [hb]
  · simp [ha]
theorem mq_w61 {k v : Nat} (hk : k < 64) : mw_p (mq s H W C f) 61 k (nI v) = mq s H W (mr_u C k v) f := by
  refine Prod.ext ?_ rfl
  funext a b
  show (if a = 61 ∧ b = k then nI v else (mq s H W C f).1 a b) = _
  unfold mq mr_u
  by_cases ha : a = 61
  · subst ha
    by_cases hb : b = k
    · subst hb; simp [hk]
    · simp [hb]
  · simp [ha]
theorem fs_u {p v : Nat} {b : Nat} : fs (mr_u f (16 + p) v) b = if b = p then (if v = 0 then none else some (v - 1)) else fs f b := by
  unfold fs mr_u
  by_cases h : b = p
  · subst h; simp
  · have : ¬ 16 + b = 16 + p := by omega
    simp [h, this]
theorem mq_w57 {p v : Nat} {x : Int32} (h55 : ¬ (f 64 = 1 ∧ f 55 = 0)) (hp : p < 8) (hx : x = mo (if v = 0 then none else some (v - 1))) : mw_p (mq s H W C f) 57 p x = mq s H W C (mr_u f (16 + p) v) := by
  subst hx
  refine Prod.ext ?_ rfl
  funext a b
  show (if a = 57 ∧ b = p then _ else (mq s H W C f).1 a b) = _
  have z1 : ∀ b, sp (mr_u f (16 + p) v) b = mo (if b = p then (if v = 0 then none else some (v - 1)) else fs f b) := fun b => by rw [sp_f (by rw [mu_ne (by omega), mu_ne (by omega)]; exact h55), fs_u]
  have z2 : ∀ b, sp f b = mo (fs f b) := fun b => sp_f h55
  unfold mq
  simp only [z1, z2, mu_ne (show ¬ 54 = 16 + p by omega), mu_ne (show ¬ 52 = 16 + p by omega), mu_ne (show ¬ 53 = 16 + p by omega), mu_ne (show ¬ 55 = 16 + p by omega)]
  by_cases ha : a = 57
  · subst ha
    by_cases hb : b = p
    · subst hb; simp [hp]
    · simp [hb]
  · simp only [ha, false_and, if_false]
    by_cases h1 : b < 8
    · rw [mu_ne (show ¬ 8 + b = 16 + p by omega), mu_ne (show ¬ b = 16 + p by omega)]
    · simp only [h1, and_false, if_false]
theorem mq_w58 {p v : Nat} (hp : p < 8) : mw_p (mq s H W C f) 58 p (nI v) = mq s H W C (mr_u f (8 + p) v) := by
  refine Prod.ext ?_ rfl
  funext a b
  show (if a = 58 ∧ b = p then _ else (mq s H W C f).1 a b) = _
  unfold mq sp fs
  simp only [mu_ne (show ¬ 64 = 8 + p by omega), mu_ne (show ¬ 54 = 8 + p by omega), mu_ne (show ¬ 52 = 8 + p by omega), mu_ne (show ¬ 53 = 8 + p by omega), mu_ne (show ¬ 55 = 8 + p by omega), mu_ne (show ¬ 16 + b = 8 + p by omega)]
  by_cases ha : a = 58
  · subst ha
    by_cases hb : b = p
    · subst hb; simp [hp, mr_u]
    · simp [hb, mr_u]
  · simp only [ha, false_and, if_false]
    by_cases h1 : b < 8
    · rw [mu_ne (show ¬ b = 8 + p by omega)]
    · simp only [h1, and_false, if_false]
theorem mq_w55 {p v : Nat} (hp : p < 8) : mw_p (mq s H W C f) 55 p (nI v) = mq s H W C (mr_u f p v) := by
  refine Prod.ext ?_ rfl
  funext a b
  show (if a = 55 ∧ b = p then _ else (mq s H W C f).1 a b) = _
  unfold mq sp fs
  simp only [mu_ne (show ¬ 64 = p by omega), mu_ne (show ¬ 54 = p by omega), mu_ne (show ¬ 52 = p by omega), mu_ne (show ¬ 53 = p by omega), mu_ne (show ¬ 55 = p by omega), mu_ne (show ¬ 16 + b = p by omega), mu_ne (show ¬ 8 + b = p by omega)]
  by_cases ha : a = 55
  · subst ha
    by_cases hb : b = p
    · subst hb; simp [hp, mr_u]
    · simp [hb, mr_u]
  · simp only [ha, false_and, if_false]
theorem mq_w54 {v : Nat} : mw_p (mq s H W C f) 42 32 (nI v) = mq s H W C (mr_u f 54 v) := by
  refine Prod.ext ?_ rfl
  funext a b
  show (if a = 42 ∧ b = 32 then _ else (mq s H W C f).1 a b) = _
  unfold mq sp fs
  simp only [mu_ne (show ¬ 64 = 54 by omega), mu_eq, mu_ne (show ¬ 52 = 54 by omega), mu_ne (show ¬ 53 = 54 by omega), mu_ne (show ¬ 55 = 54 by omega)]
  by_cases ha : a = 42
  · subst ha
    by_cases hb : b = 32
    · subst hb; simp
    · simp [hb]
  · simp only [ha, false_and, if_false]
    by_cases h1 : b < 8
    · rw [mu_ne (show ¬ b = 54 by omega), mu_ne (show ¬ 8 + b = 54 by omega), mu_ne (show ¬ 16 + b = 54 by omega)]
    · simp only [h1, and_false, if_false]
theorem mq_w52 {v : Nat} : mw_p (mq s H W C f) 42 33 (nI v) = mq s H W C (mr_u f 52 v) := by
  refine Prod.ext ?_ rfl
  funext a b
  show (if a = 42 ∧ b = 33 then _ else (mq s H W C f).1 a b) = _
  unfold mq sp fs
  simp only [mu_ne (show ¬ 64 = 52 by omega), mu_eq, mu_ne (show ¬ 54 = 52 by omega), mu_ne (show ¬ 53 = 52 by omega), mu_ne (show ¬ 55 = 52 by omega)]
  by_cases ha : a = 42
  · subst ha
    by_cases hb : b = 33
    · subst hb; simp
    · simp [hb]
  · simp only [ha, false_and, if_false]
    by_cases h1 : b < 8
    · rw [mu_ne (show ¬ b = 52 by omega), mu_ne (show ¬ 8 + b = 52 by omega), mu_ne (show ¬ 16 + b = 52 by omega)]
    · simp only [h1, and_false, if_false]
/-- other cells -/
theorem mq_wo {k j : Nat} {v : Int32} (h : (¬ k = 59 ∧ ¬ k = 60 ∧ ¬ k = 61 ∧ ¬ k = 57 ∧ ¬ k = 58 ∧ ¬ k = 55 ∧ ¬ k = 42 ∧ ¬ k = 45 ∧ ¬ k = 46) ∨ (k = 42 ∧ ¬ j = 32 ∧ ¬ j = 33)) : mw_p (mq s H W C f) k j v = mq (mw_p s k j v) H W C f := by
  refine Prod.ext ?_ rfl
  funext a b
  show (if a = k ∧ b = j then v else (mq s H W C f).1 a b) = _
  unfold mq
  simp only [mw_p1]
  by_cases ha : a = k ∧ b = j
  · rw [if_pos ha, if_pos ha]
    obtain ⟨rfl, rfl⟩ := ha
    rcases h with h | h
    · obtain ⟨h1, h2, h3, h4, h5, h6, h7, h8, h9⟩ := h
      simp only [h1, h2, h3, h4, h5, h6, h7, h8, h9, false_and, if_false]
    · obtain ⟨rfl, h2, h3⟩ := h
      simp [h2, h3]
  · rw [if_neg ha, if_neg ha]
end
section
variable {s : mw_S} {f f' : Nat → Nat}
theorem mp_h {b : Nat} (h : b < 64) : (mp s f).1 59 b = nI (gh f b) := mq_h h
theorem mp_w {b : Nat} (h : b < 64) : (mp s f).1 60 b = nI (gw f b) := mq_w h
theorem mp_c {b : Nat} (h : b < 64) : (mp s f).1 61 b = nI (gc f b) := mq_c h
theorem mp_s {b : Nat} (h : b < 8) (h55 : 0 < f 55) : (mp s f).1 57 b = mo (fs f b) := (mq_s h).trans (sp_n h55)
theorem mp_sp {b : Nat} (h : b < 8) : (mp s f).1 57 b = sp f b := mq_s h
theorem mp_d {b : Nat} (h : b < 8) : (mp s f).1 58 b = nI (f (8 + b)) := mq_d h
theorem mp_n {b : Nat} (h : b < 8) : (mp s f).1 55 b = nI (f b) := mq_n h
theorem mp_54 : (mp s f).1 42 32 = nI (f 54) := mq_54
theorem mp_52 : (mp s f).1 42 33 = nI (f 52) := mq_52
theorem mp_55 : (mp s f).1 45 0 = nI (f 55) := mq_55
theorem mp_l {b : Nat} (h : b < f 55) : (mp s f).1 46 b = nI ((f 53).testBit b).toNat := mq_l h
theorem mp_o {a b : Nat} (h : ¬ a = 59 ∧ ¬ a = 60 ∧ ¬ a = 61 ∧ ¬ a = 57 ∧ ¬ a = 58 ∧ ¬ a = 55 ∧ ¬ a = 42 ∧ ¬ a = 45 ∧ ¬ a = 46) : (mp s f).1 a b = s.1 a b := mq_o h
theorem mp_42 {b : Nat} (h : ¬ b = 32 ∧ ¬ b = 33) : (mp s f).1 42 b = s.1 42 b := mq_42 h
theorem mp_45 {b : Nat} (h : ¬ b = 0) : (mp s f).1 45 b = s.1 45 b := mq_45 h
theorem gh_lt (f : Nat → Nat) (b : Nat) : gh f b < 128 := by
  unfold gh; split
  · exact fh_lt _ _
  · decide
theorem fp64 {b : Nat} (hb : b < 64) (h : b / 8 < b % 8) : fp (b / 8) (b % 8) < 28 := fp_lt (by omega) (by omega) (by omega)
theorem mp_ext (h : ∀ j, j < 56 → f j = f' j) (h64 : f 64 = f' 64) : mp s f = mp s f' := by
  have e : ∀ b, b < 64 → b / 8 < b % 8 → f (24 + fp (b / 8) (b % 8)) = f' (24 + fp (b / 8) (b % 8)) := fun b hb h2 => h _ (by have := fp64 hb h2; omega)
  refine mq_ext ?_ ?_ ?_ (fun j hj => h j (by omega)) ⟨h _ (by omega), h _ (by omega), h _ (by omega), h _ (by omega)⟩ h64
  all_goals
    intro b hb
    first | unfold gh | unfold gw | unfold gc
    split
    · next h2 =>
      first | unfold fh | unfold fw | unfold fc
      rw [e b hb h2]
    · rfl
/-- one pair, written -/
theorem mp_pair {p q v : Nat} (hp : p < 8) (hq : q < 8) (hn : ¬ p = q) (h : ∀ j, j < 56 → f' j = if j = 24 + fp p q then v else f j) (h64 : f' 64 = f 64) : mq s (mr_u (gh f) (gp p q) (v % 128)) (mr_u (gw f) (gp p q) (v / 128 % 16)) (mr_u (gc f) (gp p q) (v / 2048)) f = mp s f' := by
  have hl := fp_lt hp hq hn
  have e : ∀ b, b < 64 → b / 8 < b % 8 → f' (24 + fp (b / 8) (b % 8)) = if b = gp p q then v else f (24 + fp (b / 8) (b % 8)) := by
    intro b hb h2
    have := fp64 hb h2
    rw [h _ (by omega)]
    by_cases hbg : b = gp p q
    · rw [if_pos hbg, if_pos (by rw [(gp_fp hb hp hq hn h2).mpr hbg])]
    · rw [if_neg hbg, if_neg (fun z => hbg ((gp_fp hb hp hq hn h2).mp (by omega)))]
  have eg : ∀ b, b = gp p q → b / 8 < b % 8 := by
    intro b hb
    obtain ⟨e1, e2⟩ := gp_d hp hq
    rw [hb, e1, e2]; omega
  refine mq_ext ?_ ?_ ?_ (fun j hj => by rw [h j (by omega), if_neg (by omega)]) ⟨by rw [h _ (by omega), if_neg (by omega)], by rw [h _ (by omega), if_neg (by omega)], by rw [h _ (by omega), if_neg (by omega)], by rw [h _ (by omega), if_neg (by omega)]⟩ h64.symm
  · intro b hb
    unfold mr_u gh
    by_cases h2 : b / 8 < b % 8
    · rw [if_pos h2, if_pos h2]
      unfold fh
      rw [e b hb h2]
      split <;> rfl
    · rw [if_neg h2, if_neg h2, if_neg (fun z => h2 (eg b z))]
  · intro b hb
    unfold mr_u gw
    by_cases h2 : b / 8 < b % 8
    · rw [if_pos h2, if_pos h2]
      unfold fw
      rw [e b hb h2]
      split <;> rfl
    · rw [if_neg h2, if_neg h2, if_neg (fun z => h2 (eg b z))]
  · intro b hb
    unfold mr_u gc
    by_cases h2 : b / 8 < b % 8
    · rw [if_pos h2, if_pos h2]
      unfold fc
      rw [e b hb h2]
      split <;> rfl
    · rw [if_neg h2, if_neg h2, if_neg (fun z => h2 (eg b z))]
theorem mr_uu {g : Nat → Nat} {k v w : Nat} : mr_u (mr_u g k v) k w = mr_u g k w := by
  funext b; unfold mr_u; split <;> rfl
theorem mr_us {g : Nat → Nat} {k : Nat} : mr_u g k (g k) = g := by
  funext b; unfold mr_u; split
  · next h => rw [h]
  · rfl
/-- the three writes, to one pair -/
theorem mp_w3 {p q h w c : Nat} (hp : p < 8) (hq : q < 8) (hn : ¬ p = q) (hh : h < 128) (hw : w < 16) : mw_p (mw_p (mw_p (mp s f) 59 (gp p q) (nI h)) 60 (gp p q) (nI w)) 61 (gp p q) (nI c) = mp s (mr_u f (24 + fp p q) (h + w * 128 + c * 2048)) := by
  have hk := gp_lt hp hq
  unfold mp
  rw [mq_w59 hk, mq_w60 hk, mq_w61 hk]
  have := mp_pair (s := s) (f := f) (v := h + w * 128 + c * 2048) hp hq hn (f' := mr_u f (24 + fp p q) (h + w * 128 + c * 2048)) (fun j _ => rfl) (mu_ne (by have := fp_lt hp hq hn; omega))
  rw [show (h + w * 128 + c * 2048) % 128 = h by omega, show (h + w * 128 + c * 2048) / 128 % 16 = w by omega, show (h + w * 128 + c * 2048) / 2048 = c by omega] at this
  exact this
theorem mp_w1 {p q h : Nat} (hp : p < 8) (hq : q < 8) (hn : ¬ p = q) (hh : h < 128) : mw_p (mp s f) 59 (gp p q) (nI h) = mp s (fsh f (fp p q) h) := by
  have hk := gp_lt hp hq
  unfold mp
  rw [mq_w59 hk]
  have := mp_pair (s := s) (f := f) (v := f (24 + fp p q) / 128 * 128 + h) hp hq hn (f' := fsh f (fp p q) h) (fun j _ => rfl) (mu_ne (by have := fp_lt hp hq hn; omega))
  have e1 : gw f (gp p q) = f (24 + fp p q) / 128 % 16 := by rw [gw_gp hp hq]; unfold fwp; rw [if_neg hn]; rfl
  have e2 : gc f (gp p q) = f (24 + fp p q) / 2048 := by rw [gc_gp hp hq]; unfold fcp; rw [if_neg hn]; rfl
  rw [show (f (24 + fp p q) / 128 * 128 + h) % 128 = h by omega, show (f (24 + fp p q) / 128 * 128 + h) / 128 % 16 = f (24 + fp p q) / 128 % 16 by omega, show (f (24 + fp p q) / 128 * 128 + h) / 2048 = f (24 + fp p q) / 2048 by omega, ← e1, ← e2, mr_us, mr_us] at this
  exact this
theorem mp_w2 {p q c : Nat} (hp : p < 8) (hq : q < 8) (hn : ¬ p = q) : mw_p (mp s f) 61 (gp p q) (nI c) = mp s (mr_u f (24 + fp p q) (f (24 + fp p q) % 2048 + c * 2048)) := by
  have hk := gp_lt hp hq
  unfold mp
  rw [mq_w61 hk]
  have := mp_pair (s := s) (f := f) (v := f (24 + fp p q) % 2048 + c * 2048) hp hq hn (f' := mr_u f (24 + fp p q) (f (24 + fp p q) % 2048 + c * 2048)) (fun j _ => rfl) (mu_ne (by have := fp_lt hp hq hn; omega))
  have e1 : gw f (gp p q) = f (24 + fp p q) / 128 % 16 := by rw [gw_gp hp hq]; unfold fwp; rw [if_neg hn]; rfl
  have e2 : gh f (gp p q) = f (24 + fp p q) % 128 := by rw [gh_gp hp hq]; unfold fhp; rw [if_neg hn]; rfl
  rw [show (f (24 + fp p q) % 2048 + c * 2048) % 128 = f (24 + fp p q) % 128 by omega, show (f (24 + fp p q) % 2048 + c * 2048) / 128 % 16 = f (24 + fp p q) / 128 % 16 by omega, show (f (24 + fp p q) % 2048 + c * 2048) / 2048 = c by omega, ← e1, ← e2, mr_us, mr_us] at this
  exact this
theorem gx_u {j v : Nat} (hj : j < 24 ∨ 52 ≤ j) : (∀ b, b < 64 → gh (mr_u f j v) b = gh f b) ∧ (∀ b, b < 64 → gw (mr_u f j v) b = gw f b) ∧ (∀ b, b < 64 → gc (mr_u f j v) b = gc f b) := by
  refine ⟨?_, ?_, ?_⟩
  all_goals
    intro b hb
    first | unfold gh | unfold gw | unfold gc
    split
    · next h2 =>
      have := fp64 hb h2
      first | unfold fh | unfold fw | unfold fc
      rw [mu_ne (by omega)]
    · rfl
theorem mp_qf {j v : Nat} (hj : j < 24 ∨ 52 ≤ j) : mq s (gh f) (gw f) (gc f) (mr_u f j v) = mp s (mr_u f j v) := mq_ext (fun b hb => ((gx_u hj).1 b hb).symm) (fun b hb => ((gx_u hj).2.1 b hb).symm) (fun b hb => ((gx_u hj).2.2 b hb).symm) (fun _ _ => rfl) ⟨rfl, rfl, rfl, rfl⟩ rfl
theorem mp_w57 {p v : Nat} (hp : p < 8) (h55 : 0 < f 55) : mw_p (mp s f) 57 p (nI v) = mp s (mr_u f (16 + p) (v + 1)) := (mq_w57 (v := v + 1) (by omega) hp rfl).trans (mp_qf (by omega))
theorem mp_w57m {p : Nat} (hp : p < 8) (h55 : 0 < f 55) : mw_p (mp s f) 57 p (-1) = mp s (mr_u f (16 + p) 0) := (mq_w57 (v := 0) (by omega) hp rfl).trans (mp_qf (by omega))
theorem mp_w58 {p v : Nat} (hp : p < 8) : mw_p (mp s f) 58 p (nI v) = mp s (mr_u f (8 + p) v) := (mq_w58 hp).trans (mp_qf (by omega))
theorem mp_w55 {p v : Nat} (hp : p < 8) : mw_p (mp s f) 55 p (nI v) = mp s (mr_u f p v) := (mq_w55 hp).trans (mp_qf (by omega))
theorem mp_w54 {v : Nat} : mw_p (mp s f) 42 32 (nI v) = mp s (mr_u f 54 v) := mq_w54.trans (mp_qf (by omega))
theorem mp_w52 {v : Nat} : mw_p (mp s f) 42 33 (nI v) = mp s (mr_u f 52 v) := mq_w52.trans (mp_qf (by omega))
theorem mp_wo {k j : Nat} {v : Int32} (h : (¬ k = 59 ∧ ¬ k = 60 ∧ ¬ k = 61 ∧ ¬ k = 57 ∧ ¬ k = 58 ∧ ¬ k = 55 ∧ ¬ k = 42 ∧ ¬ k = 45 ∧ ¬ k = 46) ∨ (k = 42 ∧ ¬ j = 32 ∧ ¬ j = 33)) : mw_p (mp s f) k j v = mp (mw_p s k j v) f := mq_wo h
/-- apart from the picture -/
def mpx (a : Nat) : Prop := ¬ a = 59 ∧ ¬ a = 60 ∧ ¬ a = 61 ∧ ¬ a = 57 ∧ ¬ a = 58 ∧ ¬ a = 55 ∧ ¬ a = 42 ∧ ¬ a = 45 ∧ ¬ a = 46
theorem mg_mp {t1 t2 : mw_S} {P : Nat → Prop} (h : mg (mp t1 f) t2 P) (hK : ∀ a, P a → mpx a) : ∃ t3, t2 = mp t3 f ∧ mg t1 t3 P := by
  haveI := fun a => Classical.propDecidable (P a)
  refine ⟨(fun a b => if P a then t2.1 a b else t1.1 a b, t2.2), ?_, h.1, ?_⟩
  · refine Prod.ext ?_ rfl
    funext a b
    by_cases ha : P a
    · rw [mp_o (hK a ha)]
      show t2.1 a b = if P a then t2.1 a b else t1.1 a b
      rw [if_pos ha]
    · rw [h.2 a ha]
      unfold mp mq
      simp only [ha, if_false]
  · intro a ha
    funext b
    show (if P a then t2.1 a b else t1.1 a b) = t1.1 a b
    rw [if_neg ha]
end
