/-! numbers: ints that are nI of a number, in one form -/
theorem mn_31 {a : Nat} (h : a < 2147483648) : a < 2 ^ 31 := h
theorem mn_mul (a b : Nat) : nI a * nI b = nI (a * b) := (Int32.ofNat_mul a b).symm
theorem mn_sub {a b : Nat} (h : b ≤ a) : nI a - nI b = nI (a - b) := by
  have e : nI a = nI (a - b) + nI b := by rw [nI_add, Nat.sub_add_cancel h]
  rw [e, Int32.add_sub_cancel]
theorem mn_m1 {a : Nat} (h : 1 ≤ a) : nI a + (-1) = nI (a - 1) := by
  rw [← mn_sub h, Int32.sub_eq_add_neg]; rfl
theorem mn_m8 {a : Nat} (h : 8 ≤ a) : nI a + (-8) = nI (a - 8) := by
  rw [← mn_sub h, Int32.sub_eq_add_neg]; rfl
theorem mn_eq {a b : Nat} (ha : a < 2147483648) (hb : b < 2147483648) : (nI a = nI b) = (a = b) := propext (nI_eq ha hb)
theorem mn_lt {a b : Nat} (ha : a < 2147483648) (hb : b < 2147483648) : (nI a < nI b) = (a < b) := propext (nI_ltI ha hb)
theorem mn_le {a b : Nat} (ha : a < 2147483648) (hb : b < 2147483648) : (nI a ≤ nI b) = (a ≤ b) := propext (nI_leI ha hb)
theorem mn_eq0 {a : Nat} (ha : a < 2147483648) : (nI a = 0) = (a = 0) := mn_eq (b := 0) ha (by decide)
theorem mn_0eq {a : Nat} (ha : a < 2147483648) : (0 = nI a) = (0 = a) := mn_eq (a := 0) (by decide) ha
theorem mn_lt0 {a : Nat} (ha : a < 2147483648) : (nI a < 0) = False := eq_false (nI_pos ha)
theorem mn_0lt {a : Nat} (ha : a < 2147483648) : (0 < nI a) = (0 < a) := mn_lt (a := 0) (by decide) ha
theorem mn_le0 {a : Nat} (ha : a < 2147483648) : (nI a ≤ 0) = (a ≤ 0) := mn_le (b := 0) ha (by decide)
theorem mn_0le {a : Nat} (ha : a < 2147483648) : (0 ≤ nI a) = True := eq_true (nI_pos' ha)
theorem mn_neg1 : (-1 : Int32).toInt = -1 := by decide
theorem mn_eqm {a : Nat} (ha : a < 2147483648) : (nI a = -1) = False := by
  apply eq_false
  rw [← Int32.toInt_inj, nI_toInt ha, mn_neg1]
  omega
theorem mn_meq {a : Nat} (ha : a < 2147483648) : (-1 = nI a) = False := by
  apply eq_false
  rw [← Int32.toInt_inj, nI_toInt ha, mn_neg1]
  omega
theorem mn_ltm {a : Nat} (ha : a < 2147483648) : (nI a < -1) = False := by
  apply eq_false
  rw [Int32.lt_iff_toInt_lt, nI_toInt ha, mn_neg1]
  omega
theorem mn_mlt {a : Nat} (ha : a < 2147483648) : (-1 < nI a) = True := by
  apply eq_true
  rw [Int32.lt_iff_toInt_lt, nI_toInt ha, mn_neg1]
  omega
theorem mn_lem {a : Nat} (ha : a < 2147483648) : (nI a ≤ -1) = False := by
  apply eq_false
  rw [Int32.le_iff_toInt_le, nI_toInt ha, mn_neg1]
  omega
theorem mn_mle {a : Nat} (ha : a < 2147483648) : (-1 ≤ nI a) = True := by
  apply eq_true
  rw [Int32.le_iff_toInt_le, nI_toInt ha, mn_neg1]
  omega
theorem mn_mm1 : ((-1 : Int32) = -1) = True := by decide
theorem mn_mm2 : ((-1 : Int32) < 0) = True := by decide
theorem mn_mm3 : ((-1 : Int32) = 0) = False := by decide
theorem mn_mm4 : ((0 : Int32) ≤ -1) = False := by decide
theorem mn_mm5 : ((0 : Int32) < -1) = False := by decide
theorem mn_mm6 : ((-1 : Int32) ≤ 0) = True := by decide
theorem mn_and (a b : Nat) : nI a &&& nI b = nI (a &&& b) := by
  apply Int32.toBitVec_inj.1
  show BitVec.ofNat 32 a &&& BitVec.ofNat 32 b = BitVec.ofNat 32 (a &&& b)
  apply BitVec.eq_of_getLsbD_eq
  intro i hi
  simp [hi]
theorem mn_or (a b : Nat) : nI a ||| nI b = nI (a ||| b) := by
  apply Int32.toBitVec_inj.1
  show BitVec.ofNat 32 a ||| BitVec.ofNat 32 b = BitVec.ofNat 32 (a ||| b)
  apply BitVec.eq_of_getLsbD_eq
  intro i hi
  simp [hi]
theorem mn_xor (a b : Nat) : nI a ^^^ nI b = nI (a ^^^ b) := by
  apply Int32.toBitVec_inj.1
  show BitVec.ofNat 32 a ^^^ BitVec.ofNat 32 b = BitVec.ofNat 32 (a ^^^ b)
  apply BitVec.eq_of_getLsbD_eq
  intro i hi
  simp [hi]
/-- the bits of a that aren't b's -/
def mn_d (a b : Nat) : Nat := a ^^^ (a &&& b)
theorem mn_d_bit (a b i : Nat) : (mn_d a b).testBit i = (a.testBit i && !b.testBit i) := by
  unfold mn_d
  rw [Nat.testBit_xor, Nat.testBit_and]
  cases a.testBit i <;> cases b.testBit i <;> rfl
theorem mn_an (a b : Nat) : nI a &&& (nI b ^^^ -1) = nI (mn_d a b) := by
  apply Int32.toBitVec_inj.1
  show BitVec.ofNat 32 a &&& (BitVec.ofNat 32 b ^^^ BitVec.allOnes 32) = BitVec.ofNat 32 (mn_d a b)
  apply BitVec.eq_of_getLsbD_eq
  intro i hi
  rw [BitVec.getLsbD_and, BitVec.getLsbD_xor, BitVec.getLsbD_allOnes, BitVec.getLsbD_ofNat, BitVec.getLsbD_ofNat, BitVec.getLsbD_ofNat, mn_d_bit]
  simp [hi]
theorem mn_sl : ∀ n, n < 32 → ((nI n &&& 31).toBitVec.smod 32).toNat = n := by decide +kernel
theorem mn_shl (a : Nat) {b : Nat} (hb : b < 32) : nI a <<< (nI b &&& 31) = nI (a * 2 ^ b) := by
  apply Int32.toBitVec_inj.1
  rw [Int32.toBitVec_shiftLeft]
  show BitVec.ofNat 32 a <<< ((nI b &&& 31).toBitVec.smod 32).toNat = BitVec.ofNat 32 (a * 2 ^ b)
  rw [mn_sl b hb]
  apply BitVec.eq_of_toNat_eq
  rw [BitVec.toNat_shiftLeft, BitVec.toNat_ofNat, BitVec.toNat_ofNat, Nat.shiftLeft_eq, Nat.mod_mul_mod]
theorem mn_shr {a b : Nat} (ha : a < 2147483648) (hb : b < 32) : nI a >>> (nI b &&& 31) = nI (a / 2 ^ b) := by
  apply Int32.toBitVec_inj.1
  rw [Int32.toBitVec_shiftRight]
  show (BitVec.ofNat 32 a).sshiftRight ((nI b &&& 31).toBitVec.smod 32).toNat = BitVec.ofNat 32 (a / 2 ^ b)
  rw [mn_sl b hb]
  have hm : (BitVec.ofNat 32 a).msb = false := by
    rw [BitVec.msb_eq_decide, BitVec.toNat_ofNat]
    simp only [decide_eq_false_iff_not]
    rw [Nat.mod_eq_of_lt (by omega)]
    omega
  rw [BitVec.sshiftRight_eq_of_msb_false hm]
  apply BitVec.eq_of_toNat_eq
  have h2 : a / 2 ^ b ≤ a := Nat.div_le_self _ _
  rw [BitVec.toNat_ushiftRight, BitVec.toNat_ofNat, BitVec.toNat_ofNat, Nat.shiftRight_eq_div_pow, Nat.mod_eq_of_lt (by omega), Nat.mod_eq_of_lt (by omega)]
theorem mn_div {a b : Nat} (ha : a < 2147483648) (hb : b < 2147483648) : nI a / nI b = nI (a / b) := by
  apply Int32.toInt_inj.1
  have h2 : a / b ≤ a := Nat.div_le_self _ _
  rw [Int32.toInt_div_of_ne_left _ _ (by
    rw [Ne, ← Int32.toInt_inj, nI_toInt ha]
    have : Int32.minValue.toInt = -2147483648 := by decide
    omega), nI_toInt ha, nI_toInt hb, nI_toInt (by omega : a / b < 2 ^ 31), Int.tdiv_eq_ediv_of_nonneg (by omega)]
  rfl
theorem mn_rem (a b : Nat) : nI a - nI (a / b * b) = nI (a % b) := by
  rw [mn_sub (Nat.div_mul_le_self a b)]
  congr 1
  have := Nat.div_add_mod a b
  rw [Nat.mul_comm] at this
  omega
theorem mn_clamp {a : Nat} (h : a < 2147483648) : (nI a).toNatClampNeg = a := nI_clamp h
theorem mn_toInt {a : Nat} (h : a < 2147483648) : (nI a).toInt = (a : Int) := nI_toInt h
theorem mn_in {n a : Nat} (h : a < 2147483648) : mw_in n (nI a) = decide (a < n) := by
  unfold mw_in
  rw [nI_clamp h]
  apply decide_eq_decide.mpr
  have := nI_pos h
  constructor
  · intro q; exact Nat.not_le.mp (fun z => q (.inr z))
  · intro q z
    rcases z with z | z
    · exact this z
    · omega
theorem mn_inm {n : Nat} : mw_in n (-1) = false := decide_eq_false (fun q => q (.inl (by decide)))
theorem mn_nz {a : Nat} (h : a < 2147483648) : mw_nz (nI a) = decide (¬ a = 0) := by
  unfold mw_nz
  simp only [mn_eq0 h]
theorem mn_zo {a : Nat} (h : a < 2147483648) : mw_zo (nI a) = decide (a ≤ 1) := by
  unfold mw_zo
  apply decide_eq_decide.mpr
  rw [mn_eq0 h, show ((1 : Int32)) = nI 1 by decide, mn_eq h (by decide)]
  omega
theorem mn_min {a b : Nat} (ha : a < 2147483648) (hb : b < 2147483648) : mw_min (nI a) (nI b) = nI (min a b) := by
  unfold mw_min
  simp only [mn_lt hb ha]
  by_cases h : b < a
  · rw [if_pos h, Nat.min_eq_right (by omega)]
  · rw [if_neg h, Nat.min_eq_left (by omega)]
theorem mn_max {a b : Nat} (ha : a < 2147483648) (hb : b < 2147483648) : mw_max (nI a) (nI b) = nI (max a b) := by
  unfold mw_max
  simp only [mn_lt ha hb]
  by_cases h : a < b
  · rw [if_pos h, Nat.max_eq_right (by omega)]
  · rw [if_neg h, Nat.max_eq_left (by omega)]
theorem mn_toInt_sub {a b : Nat} (ha : a < 1073741824) (hb : b < 1073741824) : (nI a - nI b).toInt = (a : Int) - b := by
  rw [Int32.toInt_sub, nI_toInt (by omega), nI_toInt (by omega)]
  exact Int.bmod_eq_of_le (by omega) (by omega)
theorem mn_abs {a b : Nat} (ha : a < 1073741824) (hb : b < 1073741824) : mw_abs (nI a - nI b) = nI ((a - b) + (b - a)) := by
  unfold mw_abs
  have e := mn_toInt_sub ha hb
  by_cases h : b ≤ a
  · rw [if_pos (by rw [Int32.le_iff_toInt_le, e, show (0 : Int32).toInt = 0 by decide]; omega), mn_sub h]
    congr 1; omega
  · rw [if_neg (by rw [Int32.le_iff_toInt_le, e, show (0 : Int32).toInt = 0 by decide]; omega)]
    rw [show (0 : Int32) - (nI a - nI b) = nI b - nI a by
      rw [Int32.sub_eq_add_neg, Int32.neg_sub, Int32.zero_add], mn_sub (by omega)]
    congr 1; omega
theorem mn_rfit {a : Nat} (h : a < 2147483648) : mj_rfit (some .boolean) (nI a) = decide (a ≤ 1) := by
  have e : mj_rfit (some .boolean) (nI a) = (nI a == 0 || nI a == 1) := rfl
  have h1 : (nI a = 1) = (a = 1) := mn_eq (b := 1) h (by decide)
  rw [e, Bool.eq_iff_iff, Bool.or_eq_true, beq_iff_eq, beq_iff_eq, decide_eq_true_iff, mn_eq0 h, h1]
  omega
theorem mn_cp {n0 n1 a b c : Nat} (ha : a < 2147483648) (hb : b < 2147483648) (hc : c < 2147483648) : mw_cp n0 n1 (nI a) (nI b) (nI c) = decide (a + c ≤ n0 ∧ b + c ≤ n1) := by
  unfold mw_cp
  rw [nI_clamp ha, nI_clamp hb, nI_clamp hc]
  apply decide_eq_decide.mpr
  exact ⟨fun q => ⟨q.2.2.2.1, q.2.2.2.2⟩, fun q => ⟨nI_pos ha, nI_pos hb, nI_pos hc, q.1, q.2⟩⟩
def mn_l (j : Nat) : Nat := [0, 0, 0, 0, 0, 0, 0, 1, 1, 1, 1, 1, 1, 2, 2, 2, 2, 2, 3, 3, 3, 3, 4, 4, 4, 5, 5, 6].getD j 0
def mn_g (j : Nat) : Nat := [1, 2, 3, 4, 5, 6, 7, 2, 3, 4, 5, 6, 7, 3, 4, 5, 6, 7, 4, 5, 6, 7, 5, 6, 7, 6, 7, 7].getD j 0
theorem mn_les : ∀ {j : Nat}, j < 28 → mw_les j = nI (mn_l j) := by
  have : ∀ j, j < 28 → mw_les j = nI (mn_l j) := by decide +kernel
  intro j h; exact this j h
theorem mn_gre : ∀ {j : Nat}, j < 28 → mw_gre j = nI (mn_g j) := by
  have : ∀ j, j < 28 → mw_gre j = nI (mn_g j) := by decide +kernel
  intro j h; exact this j h
theorem mn_lg : ∀ {j : Nat}, j < 28 → mn_l j < mn_g j ∧ mn_g j < 8 := by
  have : ∀ j, j < 28 → mn_l j < mn_g j ∧ mn_g j < 8 := by decide +kernel
  intro j h; exact this j h
/-! rows of the memory that are nI of numbers -/
def mr_u (f : Nat → Nat) (j v : Nat) : Nat → Nat := fun b => if b = j then v else f b
def mr_set (s : mw_S) (K n : Nat) (f : Nat → Nat) : mw_S := (fun a b => if a = K ∧ b < n then nI (f b) else s.1 a b, s.2)
theorem mw_p1 (s : mw_S) (k j a b : Nat) (v : Int32) : (mw_p s k j v).1 a b = if a = k ∧ b = j then v else s.1 a b := rfl
theorem mr_get {s : mw_S} {K n j : Nat} {f : Nat → Nat} (h : j < n) : (mr_set s K n f).1 K j = nI (f j) := if_pos ⟨rfl, h⟩
theorem mr_ne {s : mw_S} {K n a b : Nat} {f : Nat → Nat} (h : ¬ a = K) : (mr_set s K n f).1 a b = s.1 a b := if_neg (fun z => h z.1)
theorem mr_put {s : mw_S} {K n j v : Nat} {f : Nat → Nat} (h : j < n) : mw_p (mr_set s K n f) K j (nI v) = mr_set s K n (mr_u f j v) := by
  refine Prod.ext ?_ rfl
  funext a b
  show (if a = K ∧ b = j then nI v else if a = K ∧ b < n then nI (f b) else s.1 a b) = if a = K ∧ b < n then nI (if b = j then v else f b) else s.1 a b
  by_cases ha : a = K
  · by_cases hb : b = j
    · subst hb; rw [if_pos ⟨ha, rfl⟩, if_pos ⟨ha, h⟩, if_pos rfl]
    · rw [if_neg (fun z => hb z.2), if_neg (c := b = j) hb]
  · rw [if_neg (fun z => ha z.1)]; simp only [ha, false_and, if_false]
theorem mr_putne {s : mw_S} {K n k j : Nat} {v : Int32} {f : Nat → Nat} (h : ¬ k = K) : mw_p (mr_set s K n f) k j v = mr_set (mw_p s k j v) K n f := by
  refine Prod.ext ?_ rfl
  funext a b
  show (if a = k ∧ b = j then v else if a = K ∧ b < n then nI (f b) else s.1 a b) = if a = K ∧ b < n then nI (f b) else if a = k ∧ b = j then v else s.1 a b
  by_cases ha : a = K
  · have : ¬ a = k := fun z => h (z ▸ ha)
    simp only [this, false_and, if_false]
  · simp only [ha, false_and, if_false]
theorem mr_self {s : mw_S} {K n : Nat} {f : Nat → Nat} (h : ∀ j, j < n → s.1 K j = nI (f j)) : mr_set s K n f = s := by
  refine Prod.ext ?_ rfl
  funext a b
  show (if a = K ∧ b < n then nI (f b) else s.1 a b) = s.1 a b
  by_cases hc : a = K ∧ b < n
  · rw [if_pos hc, hc.1, h b hc.2]
  · rw [if_neg hc]
theorem mr_set2 {s : mw_S} {K n : Nat} {f g : Nat → Nat} : mr_set (mr_set s K n f) K n g = mr_set s K n g := by
  refine Prod.ext ?_ rfl
  funext a b
  show (if a = K ∧ b < n then nI (g b) else if a = K ∧ b < n then nI (f b) else s.1 a b) = if a = K ∧ b < n then nI (g b) else s.1 a b
  by_cases hc : a = K ∧ b < n
  · rw [if_pos hc, if_pos hc]
  · rw [if_neg hc, if_neg hc, if_neg hc]
theorem mr_ext {s : mw_S} {K n : Nat} {f g : Nat → Nat} (h : ∀ j, j < n → f j = g j) : mr_set s K n f = mr_set s K n g := by
  refine Prod.ext ?_ rfl
  funext a b
  show (if a = K ∧ b < n then nI (f b) else s.1 a b) = if a = K ∧ b < n then nI (g b) else s.1 a b
  by_cases hc : a = K ∧ b < n
  · rw [if_pos hc, if_pos hc, h b hc.2]
  · rw [if_neg hc, if_neg hc]
/-! loops -/
def mr_it {α : Type} (F : Nat → α → α) : Nat → α → α
  | 0, a => a
  | n + 1, a => F n (mr_it F n a)
/-- a loop that counts up to N; g: what is left in places that no longer count -/
theorem mr_for {α γ ρ : Type} {E : Nat → α → γ → ρ} {F : Nat → α → α} {I : Nat → α → Prop} {N : Nat} (h : ∀ i a g, i < N → I i a → I (i + 1) (F i a) ∧ ∃ g', E i a g = E (i + 1) (F i a) g') {a : α} (h0 : I 0 a) (g : γ) : ∀ n, n ≤ N → I n (mr_it F n a) ∧ ∃ g', E 0 a g = E n (mr_it F n a) g'
  | 0, _ => ⟨h0, g, rfl⟩
  | n + 1, hn => by
    obtain ⟨h1, g1, e1⟩ := mr_for h h0 g n (by omega)
    obtain ⟨h2, g2, e2⟩ := h n _ g1 (by omega) h1
    exact ⟨h2, g2, e1.trans e2⟩
theorem mr_it_congr {α : Type} {F G : Nat → α → α} : ∀ {n : Nat} {a : α}, (∀ i a, i < n → F i a = G i a) → mr_it F n a = mr_it G n a
  | 0, _, _ => rfl
  | n + 1, a, h => by
    rw [mr_it, mr_it, mr_it_congr (n := n) (fun i a hi => h i a (by omega)), h n _ (by omega)]
theorem mr_it_inv {α : Type} {F : Nat → α → α} {I : Nat → α → Prop} {a : α} : ∀ {n : Nat}, I 0 a → (∀ i a, i < n → I i a → I (i + 1) (F i a)) → I n (mr_it F n a)
  | 0, h, _ => h
  | n + 1, h, hs => hs n _ (by omega) (mr_it_inv h (fun i a hi => hs i a (by omega)))
theorem mr_it_rel {α β : Type} {F : Nat → α → α} {G : Nat → β → β} {R : Nat → α → β → Prop} {a : α} {b : β} : ∀ {n : Nat}, R 0 a b → (∀ i a b, i < n → R i a b → R (i + 1) (F i a) (G i b)) → R n (mr_it F n a) (mr_it G n b)
  | 0, h, _ => h
  | n + 1, h, hs => hs n _ _ (by omega) (mr_it_rel h (fun i a b hi => hs i a b (by omega)))
