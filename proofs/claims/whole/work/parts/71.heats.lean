/-! the heats that guesses would make -/
def n64 (x : Int64) : Nat := x.toBitVec.toNat
theorem n64_lt (x : Int64) : n64 x < 2 ^ 64 := x.toBitVec.isLt
theorem n64_and (x y : Int64) : n64 (x &&& y) = n64 x &&& n64 y := by unfold n64; rw [Int64.toBitVec_and, BitVec.toNat_and]
theorem n64_or (x y : Int64) : n64 (x ||| y) = n64 x ||| n64 y := by unfold n64; rw [Int64.toBitVec_or, BitVec.toNat_or]
theorem n64_add {x y : Int64} (h : n64 x + n64 y < 2 ^ 64) : n64 (x + y) = n64 x + n64 y := by unfold n64 at *; rw [Int64.toBitVec_add, BitVec.toNat_add, Nat.mod_eq_of_lt h]
theorem n64_sub {x y : Int64} (h : n64 y ≤ n64 x) : n64 (x - y) = n64 x - n64 y := by
  have h1 := n64_lt x
  unfold n64 at *
  rw [Int64.toBitVec_sub, BitVec.toNat_sub]
  omega
theorem n64_sh {x : Int64} {u : UInt64} {k : Nat} (hu : u.toBitVec % 64 = BitVec.ofNat 64 k) (hk : k < 64) : n64 ((Int64.toUInt64 x >>> u).toInt64) = n64 x / 2 ^ k := by
  unfold n64
  show (x.toUInt64 >>> u).toBitVec.toNat = _
  rw [UInt64.toBitVec_shiftRight, hu, BitVec.ushiftRight_eq', BitVec.toNat_ushiftRight, BitVec.toNat_ofNat, Nat.mod_eq_of_lt (by omega), Nat.shiftRight_eq_div_pow]
  rfl
def sh (x : Int64) (k : Nat) : Int64 := ((Int64.toUInt64 x) >>> ((Int64.toUInt64 (Int32.toInt64 (nI k))) &&& Int64.toUInt64 63)).toInt64
theorem sh_1 (x : Int64) : n64 (sh x 1) = n64 x / 2 := n64_sh (k := 1) (by decide) (by decide)
theorem sh_2 (x : Int64) : n64 (sh x 2) = n64 x / 4 := n64_sh (k := 2) (by decide) (by decide)
theorem sh_4 (x : Int64) : n64 (sh x 4) = n64 x / 16 := n64_sh (k := 4) (by decide) (by decide)
theorem sh_8 (x : Int64) : n64 (sh x 8) = n64 x / 256 := n64_sh (k := 8) (by decide) (by decide)
theorem sh_16 (x : Int64) : n64 (sh x 16) = n64 x / 65536 := n64_sh (k := 16) (by decide) (by decide)
theorem sh_32 (x : Int64) : n64 (sh x 32) = n64 x / 4294967296 := n64_sh (k := 32) (by decide) (by decide)
theorem l5 : n64 (lN 6148914691236517205) = M5 8 := by decide
theorem l3 : n64 (lN 3689348814741910323) = M3 8 := by decide
theorem lF : n64 (lN 1085102592571150095) = MF 8 := by decide
theorem n64_127 (x : Int64) : (Int64.toInt32 x &&& nI 127) = nI (n64 x % 128) := by
  apply Int32.toBitVec_inj.1
  rw [Int32.toBitVec_and]
  apply BitVec.eq_of_toNat_eq
  rw [BitVec.toNat_and]
  have e1 : (Int64.toInt32 x).toBitVec.toNat = n64 x % 2 ^ 32 := by
    show (BitVec.signExtend 32 x.toBitVec).toNat = _
    rw [BitVec.signExtend_eq_setWidth_of_le _ (by decide), BitVec.toNat_setWidth]
    rfl
  have e2 : (nI 127).toBitVec.toNat = 127 := by decide
  rw [e1, e2, show (127 : Nat) = 2 ^ 7 - 1 from rfl, Nat.and_two_pow_sub_one_eq_mod]
  show _ = (BitVec.ofNat 32 (n64 x % 128)).toNat
  rw [BitVec.toNat_ofNat]
  omega
theorem c349 {X : mj_X} {d : Nat} {s : mw_S} (x : Int64) : mj_call X d 349 [.long x] (mw_U s) = some (.inl (some (.int (nI (cb 64 (n64 x))))), mw_U s) := by
  obtain ⟨a, ha⟩ : ∃ a, a = x - (sh x 1 &&& lN 6148914691236517205) := ⟨_, rfl⟩
  obtain ⟨b, hb⟩ : ∃ b, b = (a &&& lN 3689348814741910323) + (sh a 2 &&& lN 3689348814741910323) := ⟨_, rfl⟩
  obtain ⟨c, hc⟩ : ∃ c, c = (b + sh b 4) &&& lN 1085102592571150095 := ⟨_, rfl⟩
  obtain ⟨i, hi⟩ : ∃ i, i = c + sh c 8 := ⟨_, rfl⟩
  obtain ⟨j, hj⟩ : ∃ j, j = i + sh i 16 := ⟨_, rfl⟩
  obtain ⟨k, hk⟩ : ∃ k, k = j + sh j 32 := ⟨_, rfl⟩
  have e : mj_call X d 349 [.long x] (mw_U s) = some (.inl (some (.int (Int64.toInt32 k &&& nI 127))), mw_U s) := by
    rw [hk, hj, hi, hc, hb, ha, b349]
    exact b349_0
  rw [e, n64_127]
  have h64 : (256 : Nat) ^ 8 = 2 ^ 64 := by decide
  have hx := n64_lt x
  have na : n64 a = n64 x - (n64 x / 2 &&& M5 8) := by
    rw [ha, n64_sub, n64_and, sh_1, l5]
    rw [n64_and, sh_1, l5]
    exact Nat.le_trans Nat.and_le_left (Nat.div_le_self _ _)
  have hbytes : n64 x = n64 x % 256 + 256 * (n64 x / 256 % 256 + 256 * (n64 x / 256 / 256 % 256 + 256 * (n64 x / 256 / 256 / 256 % 256 + 256 * (n64 x / 256 / 256 / 256 / 256 % 256 + 256 * (n64 x / 256 / 256 / 256 / 256 / 256 % 256 + 256 * (n64 x / 256 / 256 / 256 / 256 / 256 / 256 % 256 + 256 * (n64 x / 256 / 256 / 256 / 256 / 256 / 256 / 256 % 256 + 256 * 0))))))) := by
    generalize n64 x = y at hx
    clear na
    have f : ∀ y, y = y % 256 + 256 * (y / 256) := fun y => by omega
    have z : y / 256 / 256 / 256 / 256 / 256 / 256 / 256 / 256 = 0 := by
      simp only [Nat.div_div_eq_div_mul]
      exact Nat.div_eq_of_lt hx
    have f7 := f (y / 256 / 256 / 256 / 256 / 256 / 256 / 256)
    rw [z] at f7
    rw [← f7, ← f, ← f, ← f, ← f, ← f, ← f, ← f]
  have lt8 : ∀ y : Nat, y % 256 < 256 := fun y => Nat.mod_lt _ (by decide)
  obtain ⟨p1, p2, p3⟩ := pop_N (lt8 _) (lt8 _) (lt8 _) (lt8 _) (lt8 _) (lt8 _) (lt8 _) (lt8 _) (x := n64 x) hbytes rfl rfl rfl
  have nb : n64 b = (n64 a &&& M3 8) + (n64 a / 4 &&& M3 8) := by
    rw [hb, n64_add, n64_and, n64_and, sh_2, l3]
    rw [n64_and, n64_and, sh_2, l3, na]
    exact Nat.lt_of_lt_of_le p3 (by decide)
  have q8 : ∀ y, cb 8 (y % 256) ≤ 8 := fun y => (g_ok _ (lt8 y)).2.2.2.2
  have bsm : n64 b + n64 b / 16 < 2 ^ 64 := by
    rw [nb, na]
    have f : ∀ y : Nat, y < 69 * 256 ^ 7 → y + y / 16 < 2 ^ 64 := fun y hy => by omega
    exact f _ p3
  have nc : n64 c = (n64 b + n64 b / 16) &&& MF 8 := by
    rw [hc, n64_and, n64_add, sh_4, lF]
    rw [sh_4]
    exact bsm
  rw [na] at nb
  rw [nb] at nc
  rw [p1] at nc
  obtain ⟨r1, r2, r3, r4⟩ := fold_N (q8 _) (q8 _) (q8 _) (q8 _) (q8 _) (q8 _) (q8 _) (q8 _) (n64 c) _ _ _ nc rfl rfl rfl
  rw [h64] at r2 r3 r4
  have ni : n64 i = n64 c + n64 c / 256 := by
    rw [hi, n64_add, sh_8]
    rw [sh_8]; exact r2
  have nj : n64 j = n64 i + n64 i / 65536 := by
    rw [hj, n64_add, sh_16]
    rw [sh_16, ni]; exact r3
  have nk : n64 k = n64 j + n64 j / 4294967296 := by
    rw [hk, n64_add, sh_32]
    rw [sh_32, nj, ni]; exact r4
  rw [nk, nj, ni, r1, cb_8]
/-- how many of the numbers below n are so -/
def cS (S : Nat → Bool) (n : Nat) : Nat := mr_it (fun i c => c + (S i).toNat) n 0
theorem cS_add {S S' : Nat → Bool} {a : Nat} (hS : ∀ v, S' v = (S v || decide (v = a))) : ∀ n, cS S' n = cS S n + (if a < n ∧ S a = false then 1 else 0)
  | 0 => by simp [cS, mr_it]
  | n + 1 => by
    have ih := cS_add hS n
    have e1 : cS S' (n + 1) = cS S' n + (S' n).toNat := rfl
    have e2 : cS S (n + 1) = cS S n + (S n).toNat := rfl
    rw [e1, e2, ih, hS n]
    by_cases h : n = a
    · subst h
      cases h2 : S n <;> simp
    · rw [decide_eq_false h, Bool.or_false]
      by_cases h3 : a < n ∧ S a = false
      · rw [if_pos h3, if_pos ⟨by omega, h3.2⟩]; omega
      · rw [if_neg h3, if_neg (fun z => h3 ⟨by omega, z.2⟩)]; omega
theorem cS_congr {S S' : Nat → Bool} {n : Nat} (h : ∀ v, v < n → S v = S' v) : cS S n = cS S' n := mr_it_congr (fun i c hi => by rw [h i hi])
def sE (h : Nat → Nat) (m v : Nat) : Bool := decide (∃ j, j < m ∧ h j = v)
theorem sE_iff {h : Nat → Nat} {m v : Nat} : sE h m v = true ↔ ∃ j, j < m ∧ h j = v := decide_eq_true_iff
theorem cS_0 {h : Nat → Nat} : ∀ n, cS (sE h 0) n = 0
  | 0 => rfl
  | n + 1 => by
    have e : cS (sE h 0) (n + 1) = cS (sE h 0) n + (sE h 0 n).toNat := rfl
    have e2 : sE h 0 n = false := decide_eq_false (by rintro ⟨j, hj, -⟩; omega)
    rw [e, cS_0 n, e2]; rfl
theorem dst_cS {h : Nat → Nat} : ∀ {m : Nat}, (∀ j, j < m → h j < 128) → dst h m = cS (sE h m) 128
  | 0, _ => by rw [cS_0]; rfl
  | m + 1, hb => by
    have ih := dst_cS (h := h) (m := m) (fun j hj => hb j (by omega))
    have ed : dst h (m + 1) = dst h m + (if ∃ i, i < m ∧ h i = h m then 0 else 1) := rfl
    rw [ed, ih, cS_add (S := sE h m) (S' := sE h (m + 1)) (a := h m)]
    · congr 1
      by_cases q : ∃ i, i < m ∧ h i = h m
      · rw [if_pos q, if_neg (fun z => by rw [sE_iff.2 q] at z; cases z.2)]
      · rw [if_neg q, if_pos ⟨hb m (by omega), decide_eq_false q⟩]
    · intro v
      rw [Bool.eq_iff_iff, Bool.or_eq_true, sE_iff, sE_iff, decide_eq_true_eq]
      constructor
      · rintro ⟨j, hj, e⟩
        by_cases h1 : j = m
        · subst h1; exact Or.inr e.symm
        · exact Or.inl ⟨j, by omega, e⟩
      · rintro (⟨j, hj, e⟩ | e)
        · exact ⟨j, by omega, e⟩
        · exact ⟨m, by omega, e.symm⟩
/-- the bits of two longs -/
def hB (s : mw_S) (i : Nat) (S : Nat → Bool) : Prop := ∀ e v, e < 2 → v < 64 → (n64 (s.2.1 38 (2 * i + e))).testBit v = S (64 * e + v)
theorem hB_cnt {s : mw_S} {i : Nat} {S : Nat → Bool} (h : hB s i S) : cb 64 (n64 (s.2.1 38 (2 * i))) + cb 64 (n64 (s.2.1 38 (2 * i + 1))) = cS S 128 := by
  have e1 : cS S 128 = cS S 64 + cS (fun v => S (64 + v)) 64 := by
    unfold cS
    rw [show 128 = 64 + 64 from rfl, mr_it_add, it_sum]
  rw [e1]
  congr 1
  · exact mr_it_congr (fun v c hv => by have := h 0 v (by decide) hv; rw [show 2 * i + 0 = 2 * i from rfl, show 64 * 0 + v = v by omega] at this; rw [this])
  · exact mr_it_congr (fun v c hv => by have := h 1 v (by decide) hv; rw [show 64 * 1 + v = 64 + v by omega] at this; rw [this])
section
variable {X : mj_X} {d : Nat} {s : mw_S} {f : Nat → Nat} {σ : sS} {Q : rQ} {L : Nat} {w : Int32}
theorem mw_pl1 (s : mw_S) (k j a b : Nat) (v : Int64) : (mw_pl s k j v).2.1 a b = if a = k ∧ b = j then v else s.2.1 a b := rfl
theorem one_sh : ∀ v, v < 64 → n64 (Int64.ofNat 1 <<< (Int32.toInt64 (nI v) &&& 63)) = 2 ^ v := by decide +kernel
theorem c85 {r : Nat → Nat} (hR : mr_is s 36 64 r) (hr : ∀ j, r j < 2147483648) {S : Nat → Nat → Bool} (hS : ∀ i, i < 28 → hB s i (S i)) : ∃ t, mj_call X (d + 1) 85 [.ref 34] (mw_U s) = some (.inl none, mw_U t) ∧ t.1 = s.1 ∧ kg s t ∧ ∀ i, i < 28 → hB t i (fun v => S i v || decide (v = fh r i)) := by
  have k35 := mw_c_35
  rw [b85]
  simp (disch := first | assumption | exact hf _ | omega) only [b85_0]
  obtain ⟨⟨t, l⟩, ⟨h1, h2, h3, h4⟩, e⟩ := mr_forg (α := Unit) (γ := mw_S × Option Value) (E := fun i _ z => mj_exec X (d + 1) 85 2 [some (.ref 34), some (.int (nI i)), z.2] [] (mw_U z.1)) (F := fun _ a => a) (I := fun i _ z => z.1.1 = s.1 ∧ kg s z.1 ∧ (∀ j, j < i → hB z.1 j (fun v => S j v || decide (v = fh r j))) ∧ ∀ j, i ≤ j → j < 28 → hB z.1 j (S j)) (N := 28) (by
    intro i _ z hi ⟨h1, h2, h3, h4⟩
    obtain ⟨t, l⟩ := z
    dsimp only at h1 h2 h3 h4 ⊢
    have hR' : mr_is t 36 64 r := fun j hj => by rw [h1]; exact hR j hj
    have hh : fh r i < 128 := Nat.mod_lt _ (by decide)
    have e63 : fh r i &&& 63 = fh r i % 64 := Nat.and_two_pow_sub_one_eq_mod _ 6
    have hv : fh r i % 64 < 64 := Nat.mod_lt _ (by decide)
    have hix : 2 * i + fh r i / 64 < 56 := by omega
    refine ⟨(mw_pl t 38 (2 * i + fh r i / 64) (t.2.1 38 (2 * i + fh r i / 64) ||| (Int64.ofNat 1 <<< (Int32.toInt64 (nI (fh r i % 64)) &&& 63))), some (.int (nI (fh r i)))), ⟨h1, ⟨h2.1, ?_, h2.2.2⟩, ?_, ?_⟩, ?_⟩
    · intro a ha
      rw [← h2.2.1 a ha]
      funext b
      rw [mw_pl1, if_neg (fun z => ha z.1)]
    · intro j hj e v he hv2
      rw [mw_pl1]
      by_cases hji : j = i
      · subst hji
        have h5 := h4 j (Nat.le_refl _) hi e v he hv2
        by_cases hee : e = fh r j / 64
        · subst hee
          rw [if_pos ⟨rfl, rfl⟩, n64_or, Nat.testBit_or, h5, one_sh _ hv, Nat.testBit_two_pow]
          congr 1
          apply decide_eq_decide.mpr
          omega
        · rw [if_neg (by omega), h5]
          dsimp only
          rw [decide_eq_false (by omega), Bool.or_false]
      · rw [if_neg (by omega)]
        exact h3 j (by omega) e v he hv2
    · intro j hj hj2 e v he hv2
      rw [mw_pl1, if_neg (by omega)]
      exact h4 j (by omega) hj2 e v he hv2
    · rw [b85_2]
      simp (disch := first | assumption | exact hf _ | omega) only [b85, b85_0, b85_8, b85_16, b85_45, nI_add, mn_mul, mn_sub, mn_m1, mn_m8, mn_eq, mn_lt, mn_le, mn_eq0, mn_0eq, mn_lt0, mn_0lt, mn_le0, mn_0le, mn_eqm, mn_meq, mn_ltm, mn_mlt, mn_lem, mn_mle, mn_mm1, mn_mm2, mn_mm3, mn_mm4, mn_mm5, mn_mm6, mn_and, mn_or, mn_an, mn_shl, mn_shr, mn_div, mn_rem, mn_clamp, mn_in, mn_inm, mn_nz, mn_zo, mn_min, mn_max, mn_abs, mn_rfit, mn_cp, mn_les, mn_gre, mn_a127, mn_a15, mn_a1, mn_a255, mn_tn0, mn_tn0e, mn_tnr, mn_tnz, mr_get, mr_ne, mr_put, mu_ne, mu_eq, mj_bk_i, mj_bk_v, mj_bk_x, decide_eq_true_eq, decide_true, decide_false, Bool.false_eq_true, Bool.true_eq_false, reduceCtorEq, mt_le_t, mt_le_f, mt_lt_t, mt_lt_f, mt_eq_t, mt_eq_f, mt_ee, not_true_eq_false, not_false_eq_true, and_true, true_and, and_self, Nat.zero_add, Nat.add_zero, Nat.one_mul, Nat.mul_one, Nat.reduceAdd, Nat.reduceMul, Nat.reduceSub, Nat.reducePow, Nat.reduceDiv, Nat.reduceMod, ↓reduceIte, r37 k35 hR' hr hi, e63]) (a := ()) (g := (s, none)) ⟨rfl, kg_refl, fun j hj => by omega, fun j _ hj => hS j hj⟩ 28 (Nat.le_refl 28)
  refine ⟨t, ?_, h1, h2, h3⟩
  refine e.trans ?_
  rw [b85_2]
  simp (disch := first | assumption | exact hf _ | omega) only [b85, b85_0, b85_8, b85_16, b85_45, nI_add, mn_mul, mn_sub, mn_m1, mn_m8, mn_eq, mn_lt, mn_le, mn_eq0, mn_0eq, mn_lt0, mn_0lt, mn_le0, mn_0le, mn_eqm, mn_meq, mn_ltm, mn_mlt, mn_lem, mn_mle, mn_mm1, mn_mm2, mn_mm3, mn_mm4, mn_mm5, mn_mm6, mn_and, mn_or, mn_an, mn_shl, mn_shr, mn_div, mn_rem, mn_clamp, mn_in, mn_inm, mn_nz, mn_zo, mn_min, mn_max, mn_abs, mn_rfit, mn_cp, mn_les, mn_gre, mn_a127, mn_a15, mn_a1, mn_a255, mn_tn0, mn_tn0e, mn_tnr, mn_tnz, mr_get, mr_ne, mr_put, mu_ne, mu_eq, mj_bk_i, mj_bk_v, mj_bk_x, decide_eq_true_eq, decide_true, decide_false, Bool.false_eq_true, Bool.true_eq_false, reduceCtorEq, mt_le_t, mt_le_f, mt_lt_t, mt_lt_f, mt_eq_t, mt_eq_f, mt_ee, not_true_eq_false, not_false_eq_true, and_true, true_and, and_self, Nat.zero_add, Nat.add_zero, Nat.one_mul, Nat.mul_one, Nat.reduceAdd, Nat.reduceMul, Nat.reduceSub, Nat.reducePow, Nat.reduceDiv, Nat.reduceMod, ↓reduceIte]
theorem c351 : ∃ t, mj_call X d 351 [.ref 38, .long (Int64.ofNat 0)] (mw_U s) = some (.inl none, mw_U t) ∧ t.1 = s.1 ∧ kg s t ∧ ∀ i, i < 28 → hB t i (fun _ => false) := by
  have l38 := mw_l_38
  rw [b351]
  simp (disch := first | assumption | exact hf _ | omega) only [b351_0]
  obtain ⟨t, ⟨h1, h2, h3⟩, e⟩ := mr_forg (α := Unit) (γ := mw_S) (E := fun i _ t => mj_exec X d 351 6 [some (.ref 38), some (.long (Int64.ofNat 0)), none, some (.int (nI i)), some (.int (nI 56))] [] (mw_U t)) (F := fun _ a => a) (I := fun i _ t => t.1 = s.1 ∧ kg s t ∧ ∀ j, j < i → t.2.1 38 j = Int64.ofNat 0) (N := 56) (by
    intro i _ t hi ⟨h1, h2, h3⟩
    refine ⟨mw_pl t 38 i (Int64.ofNat 0), ⟨h1, ⟨h2.1, ?_, h2.2.2⟩, ?_⟩, ?_⟩
    · intro a ha
      rw [← h2.2.1 a ha]
      funext b
      rw [mw_pl1, if_neg (fun z => ha z.1)]
    · intro j hj
      rw [mw_pl1]
      by_cases he : j = i
      · rw [if_pos ⟨rfl, he⟩]
      · rw [if_neg (fun z => he z.2)]; exact h3 j (by omega)
    · rw [b351_6 l38]
      simp (disch := first | assumption | exact hf _ | omega) only [b351, b351_0, b351_12, b351_22, nI_add, mn_mul, mn_sub, mn_m1, mn_m8, mn_eq, mn_lt, mn_le, mn_eq0, mn_0eq, mn_lt0, mn_0lt, mn_le0, mn_0le, mn_eqm, mn_meq, mn_ltm, mn_mlt, mn_lem, mn_mle, mn_mm1, mn_mm2, mn_mm3, mn_mm4, mn_mm5, mn_mm6, mn_and, mn_or, mn_an, mn_shl, mn_shr, mn_div, mn_rem, mn_clamp, mn_in, mn_inm, mn_nz, mn_zo, mn_min, mn_max, mn_abs, mn_rfit, mn_cp, mn_les, mn_gre, mn_a127, mn_a15, mn_a1, mn_a255, mn_tn0, mn_tn0e, mn_tnr, mn_tnz, mr_get, mr_ne, mr_put, mu_ne, mu_eq, mj_bk_i, mj_bk_v, mj_bk_x, decide_eq_true_eq, decide_true, decide_false, Bool.false_eq_true, Bool.true_eq_false, reduceCtorEq, mt_le_t, mt_le_f, mt_lt_t, mt_lt_f, mt_eq_t, mt_eq_f, mt_ee, not_true_eq_false, not_false_eq_true, and_true, true_and, and_self, Nat.zero_add, Nat.add_zero, Nat.one_mul, Nat.mul_one, Nat.reduceAdd, Nat.reduceMul, Nat.reduceSub, Nat.reducePow, Nat.reduceDiv, Nat.reduceMod, ↓reduceIte]) (a := ()) (g := s) ⟨rfl, kg_refl, fun j hj => by omega⟩ 56 (Nat.le_refl 56)
  refine ⟨t, ?_, h1, h2, fun i hi e v he hv => ?_⟩
  · refine e.trans ?_
    rw [b351_6 l38]
    simp (disch := first | assumption | exact hf _ | omega) only [b351, b351_0, b351_12, b351_22, nI_add, mn_mul, mn_sub, mn_m1, mn_m8, mn_eq, mn_lt, mn_le, mn_eq0, mn_0eq, mn_lt0, mn_0lt, mn_le0, mn_0le, mn_eqm, mn_meq, mn_ltm, mn_mlt, mn_lem, mn_mle, mn_mm1, mn_mm2, mn_mm3, mn_mm4, mn_mm5, mn_mm6, mn_and, mn_or, mn_an, mn_shl, mn_shr, mn_div, mn_rem, mn_clamp, mn_in, mn_inm, mn_nz, mn_zo, mn_min, mn_max, mn_abs, mn_rfit, mn_cp, mn_les, mn_gre, mn_a127, mn_a15, mn_a1, mn_a255, mn_tn0, mn_tn0e, mn_tnr, mn_tnz, mr_get, mr_ne, mr_put, mu_ne, mu_eq, mj_bk_i, mj_bk_v, mj_bk_x, decide_eq_true_eq, decide_true, decide_false, Bool.false_eq_true, Bool.true_eq_false, reduceCtorEq, mt_le_t, mt_le_f, mt_lt_t, mt_lt_f, mt_eq_t, mt_eq_f, mt_ee, not_true_eq_false, not_false_eq_true, and_true, true_and, and_self, Nat.zero_add, Nat.add_zero, Nat.one_mul, Nat.mul_one, Nat.reduceAdd, Nat.reduceMul, Nat.reduceSub, Nat.reducePow, Nat.reduceDiv, Nat.reduceMod, ↓reduceIte]
  · rw [h3 _ (by omega), show n64 (Int64.ofNat 0) = 0 by decide, Nat.zero_testBit]
theorem c84 (hw : wf f L) (hF : mr_is s 4 64 f) (h54 : f 54 ≤ 999) (hq : rC s 18 Q) (ho : rOK Q) (hG : gR s Q f σ 80) : ∃ t, mj_call X (d + 6) 84 [.ref 34, .ref 3, .ref 18] (mw_U s) = some (.inl none, mw_U t) ∧ kg s t ∧ ∀ i, i < 28 → hB t i (fun v => decide (∃ x, x ∈ FL Q f σ 80 ∧ hv5 Q f x i = v)) := by
  have k3 := mw_c_3
  have k18 := mw_c_18
  have k35 := mw_c_35
  have hf := wf_lt hw
  obtain ⟨t0, e0, a0, g0, b0⟩ := c351 (X := X) (d := d + 5) (s := s)
  have start : mj_call X (d + 6) 84 [.ref 34, .ref 3, .ref 18] (mw_U s) = mj_exec X (d + 6) 84 10 [some (.ref 34), some (.ref 3), some (.ref 18), some (.int (nI 0))] [] (mw_U t0) := by
    simp (disch := first | assumption | exact hf _ | omega) only [b84, b84_0, b84_8, b84_16, b84_25, b84_31, b84_40, b84_44, b84_50, nI_add, mn_mul, mn_sub, mn_m1, mn_m8, mn_eq, mn_lt, mn_le, mn_eq0, mn_0eq, mn_lt0, mn_0lt, mn_le0, mn_0le, mn_eqm, mn_meq, mn_ltm, mn_mlt, mn_lem, mn_mle, mn_mm1, mn_mm2, mn_mm3, mn_mm4, mn_mm5, mn_mm6, mn_and, mn_or, mn_an, mn_shl, mn_shr, mn_div, mn_rem, mn_clamp, mn_in, mn_inm, mn_nz, mn_zo, mn_min, mn_max, mn_abs, mn_rfit, mn_cp, mn_les, mn_gre, mn_a127, mn_a15, mn_a1, mn_a255, mn_tn0, mn_tn0e, mn_tnr, mn_tnz, mr_get, mr_ne, mr_put, mu_ne, mu_eq, mj_bk_i, mj_bk_v, mj_bk_x, decide_eq_true_eq, decide_true, decide_false, Bool.false_eq_true, Bool.true_eq_false, reduceCtorEq, mt_le_t, mt_le_f, mt_lt_t, mt_lt_f, mt_eq_t, mt_eq_f, mt_ee, not_true_eq_false, not_false_eq_true, and_true, true_and, and_self, Nat.zero_add, Nat.add_zero, Nat.one_mul, Nat.mul_one, Nat.reduceAdd, Nat.reduceMul, Nat.reduceSub, Nat.reducePow, Nat.reduceDiv, Nat.reduceMod, ↓reduceIte, e0]
  rw [start]
  obtain ⟨t, ⟨h1, h2, h3⟩, e⟩ := mr_forg (α := Unit) (γ := mw_S) (E := fun i _ t => mj_exec X (d + 6) 84 10 [some (.ref 34), some (.ref 3), some (.ref 18), some (.int (nI i))] [] (mw_U t)) (F := fun _ a => a) (I := fun n _ t => kg s t ∧ t.1 37 = s.1 37 ∧ ∀ i, i < 28 → hB t i (fun v => decide (∃ x, x ∈ FL Q f σ n ∧ hv5 Q f x i = v))) (N := 80) (by
    intro g _ t hg ⟨h1, h2, h3⟩
    have eg := hG g hg
    rw [← h2] at eg
    have hF' : mr_is t 4 64 f := mr_is_kg hF h1 (by unfold kM; omega)
    cases hr : rt Q f σ g <;> rw [hr] at eg
    · refine ⟨t, ⟨h1, h2, ?_⟩, ?_⟩
      · rw [FL_dead hr]; exact h3
      · rw [b84_10 k3 k18]
        simp (disch := first | assumption | exact hf _ | omega) only [b84, b84_0, b84_8, b84_16, b84_25, b84_31, b84_40, b84_44, b84_50, nI_add, mn_mul, mn_sub, mn_m1, mn_m8, mn_eq, mn_lt, mn_le, mn_eq0, mn_0eq, mn_lt0, mn_0lt, mn_le0, mn_0le, mn_eqm, mn_meq, mn_ltm, mn_mlt, mn_lem, mn_mle, mn_mm1, mn_mm2, mn_mm3, mn_mm4, mn_mm5, mn_mm6, mn_and, mn_or, mn_an, mn_shl, mn_shr, mn_div, mn_rem, mn_clamp, mn_in, mn_inm, mn_nz, mn_zo, mn_min, mn_max, mn_abs, mn_rfit, mn_cp, mn_les, mn_gre, mn_a127, mn_a15, mn_a1, mn_a255, mn_tn0, mn_tn0e, mn_tnr, mn_tnz, mr_get, mr_ne, mr_put, mu_ne, mu_eq, mj_bk_i, mj_bk_v, mj_bk_x, decide_eq_true_eq, decide_true, decide_false, Bool.false_eq_true, Bool.true_eq_false, reduceCtorEq, mt_le_t, mt_le_f, mt_lt_t, mt_lt_f, mt_eq_t, mt_eq_f, mt_ee, not_true_eq_false, not_false_eq_true, and_true, true_and, and_self, Nat.zero_add, Nat.add_zero, Nat.one_mul, Nat.mul_one, Nat.reduceAdd, Nat.reduceMul, Nat.reduceSub, Nat.reducePow, Nat.reduceDiv, Nat.reduceMod, ↓reduceIte, eg, Bool.toNat_false]
    · have hp : g / 10 < 8 := by omega
      have hwn := wf_nv hw hp (show g % 10 ≤ 9 by omega)
      have hn54 : mr_u f (g / 10) (g % 10) 54 ≤ 999 := by rw [mu_ne (by omega)]; exact h54
      obtain ⟨t2, e2, g2⟩ := c112 (X := X) (d := d + 1) (s := t) (f := mr_u f (g / 10) (g % 10)) k35 hwn (rC_kg hq h1) ho (n := 5) (by omega)
      have hw5 := wf_wks (Q := Q) hwn 5 (by omega)
      have ht2 : kg s (mr_set t2 36 64 (fwks Q (mr_u f (g / 10) (g % 10)) 5)) := kg_36 (kg_trans h1 (kg_mg g2 (fun a ha => by unfold kM; omega)))
      obtain ⟨t3, e3, a3, g3, b3⟩ := c85 (X := X) (d := d + 4) (s := mr_set t2 36 64 (fwks Q (mr_u f (g / 10) (g % 10)) 5)) mr_is_set (wf_lt hw5) (S := fun i v => decide (∃ x, x ∈ FL Q f σ g ∧ hv5 Q f x i = v)) (fun i hi e v he hv => by
        have := h3 i hi e v he hv
        have e5 : (mr_set t2 36 64 (fwks Q (mr_u f (g / 10) (g % 10)) 5)).2.1 = t.2.1 := by show t2.2.1 = _; rw [g2.1]
        rw [e5]; exact this)
      refine ⟨t3, ⟨kg_trans ht2 g3, ?_, ?_⟩, ?_⟩
      · rw [a3]
        funext j
        rw [mr_ne (by decide), g2.2 37 (by omega), h2]
      · intro i hi
        have := b3 i hi
        intro e v he hv
        rw [this e v he hv, FL_s, hr, if_pos rfl]
        dsimp only
        rw [← Bool.decide_or]
        apply decide_eq_decide.mpr
        constructor
        · rintro (⟨x, hx, e⟩ | e)
          · exact ⟨x, List.mem_append_left _ hx, e⟩
          · exact ⟨g, List.mem_append_right _ (List.mem_singleton.2 rfl), e.symm⟩
        · rintro ⟨x, hx, e⟩
          rcases List.mem_append.1 hx with h | h
          · exact Or.inl ⟨x, h, e⟩
          · rw [List.mem_singleton] at h
            subst h
            exact Or.inr e.symm
      · rw [b84_10 k3 k18]
        simp (disch := first | assumption | exact hf _ | omega) only [b84, b84_0, b84_8, b84_16, b84_25, b84_31, b84_40, b84_44, b84_50, nI_add, mn_mul, mn_sub, mn_m1, mn_m8, mn_eq, mn_lt, mn_le, mn_eq0, mn_0eq, mn_lt0, mn_0lt, mn_le0, mn_0le, mn_eqm, mn_meq, mn_ltm, mn_mlt, mn_lem, mn_mle, mn_mm1, mn_mm2, mn_mm3, mn_mm4, mn_mm5, mn_mm6, mn_and, mn_or, mn_an, mn_shl, mn_shr, mn_div, mn_rem, mn_clamp, mn_in, mn_inm, mn_nz, mn_zo, mn_min, mn_max, mn_abs, mn_rfit, mn_cp, mn_les, mn_gre, mn_a127, mn_a15, mn_a1, mn_a255, mn_tn0, mn_tn0e, mn_tnr, mn_tnz, mr_get, mr_ne, mr_put, mu_ne, mu_eq, mj_bk_i, mj_bk_v, mj_bk_x, decide_eq_true_eq, decide_true, decide_false, Bool.false_eq_true, Bool.true_eq_false, reduceCtorEq, mt_le_t, mt_le_f, mt_lt_t, mt_lt_f, mt_eq_t, mt_eq_f, mt_ee, not_true_eq_false, not_false_eq_true, and_true, true_and, and_self, Nat.zero_add, Nat.add_zero, Nat.one_mul, Nat.mul_one, Nat.reduceAdd, Nat.reduceMul, Nat.reduceSub, Nat.reducePow, Nat.reduceDiv, Nat.reduceMod, ↓reduceIte, eg, Bool.toNat_true, c80 hF' hf hg, e2, e3]) (a := ()) (g := t0) ⟨g0, by rw [a0], fun i hi e v he hv => by rw [b0 i hi e v he hv]; dsimp only; rw [decide_eq_false]; rintro ⟨x, hx, -⟩; cases hx⟩ 80 (Nat.le_refl 80)
  refine ⟨t, ?_, h1, h3⟩
  refine e.trans ?_
  rw [b84_10 k3 k18]
  simp (disch := first | assumption | exact hf _ | omega) only [b84, b84_0, b84_8, b84_16, b84_25, b84_31, b84_40, b84_44, b84_50, nI_add, mn_mul, mn_sub, mn_m1, mn_m8, mn_eq, mn_lt, mn_le, mn_eq0, mn_0eq, mn_lt0, mn_0lt, mn_le0, mn_0le, mn_eqm, mn_meq, mn_ltm, mn_mlt, mn_lem, mn_mle, mn_mm1, mn_mm2, mn_mm3, mn_mm4, mn_mm5, mn_mm6, mn_and, mn_or, mn_an, mn_shl, mn_shr, mn_div, mn_rem, mn_clamp, mn_in, mn_inm, mn_nz, mn_zo, mn_min, mn_max, mn_abs, mn_rfit, mn_cp, mn_les, mn_gre, mn_a127, mn_a15, mn_a1, mn_a255, mn_tn0, mn_tn0e, mn_tnr, mn_tnz, mr_get, mr_ne, mr_put, mu_ne, mu_eq, mj_bk_i, mj_bk_v, mj_bk_x, decide_eq_true_eq, decide_true, decide_false, Bool.false_eq_true, Bool.true_eq_false, reduceCtorEq, mt_le_t, mt_le_f, mt_lt_t, mt_lt_f, mt_eq_t, mt_eq_f, mt_ee, not_true_eq_false, not_false_eq_true, and_true, true_and, and_self, Nat.zero_add, Nat.add_zero, Nat.one_mul, Nat.mul_one, Nat.reduceAdd, Nat.reduceMul, Nat.reduceSub, Nat.reducePow, Nat.reduceDiv, Nat.reduceMod, ↓reduceIte]
theorem ulk_cS {i : Nat} : ulk Q f σ i = cS (fun v => decide (∃ x, x ∈ FL Q f σ 80 ∧ hv5 Q f x i = v)) 128 := by
  unfold ulk
  rw [dst_cS (fun j _ => show hv5 Q f ((FL Q f σ 80).getD j 0) i < 128 from Nat.mod_lt _ (by decide))]
  refine cS_congr (fun v _ => decide_eq_decide.mpr ?_)
  constructor
  · rintro ⟨j, hj, e⟩
    refine ⟨(FL Q f σ 80).getD j 0, ?_, e⟩
    rw [List.getD_eq_getElem?_getD, List.getElem?_eq_getElem hj]
    exact List.getElem_mem hj
  · rintro ⟨x, hx, e⟩
    obtain ⟨j, hj, e2⟩ := List.getElem_of_mem hx
    refine ⟨j, hj, ?_⟩
    dsimp only
    rw [List.getD_eq_getElem?_getD, List.getElem?_eq_getElem hj]
    show hv5 Q f (FL Q f σ 80)[j] i = v
    rw [e2]; exact e
theorem ulk_le (i : Nat) : ulk Q f σ i ≤ 80 := Nat.le_trans (dst_le _ _) (FL_le 80)
theorem c87 {i : Nat} (hi : i < 28) (hB' : hB s i (fun v => decide (∃ x, x ∈ FL Q f σ 80 ∧ hv5 Q f x i = v))) : mj_call X (d + 1) 87 [.ref 34, .int (nI i)] (mw_U s) = some (.inl (some (.int (nI (ulk Q f σ i)))), mw_U s) := by
  rw [ulk_cS, ← hB_cnt hB']
  simp (disch := first | assumption | exact hf _ | omega) only [b87, b87_0, b87_4, b87_10, b87_12, b87_23, b87_36, nI_add, mn_mul, mn_sub, mn_m1, mn_m8, mn_eq, mn_lt, mn_le, mn_eq0, mn_0eq, mn_lt0, mn_0lt, mn_le0, mn_0le, mn_eqm, mn_meq, mn_ltm, mn_mlt, mn_lem, mn_mle, mn_mm1, mn_mm2, mn_mm3, mn_mm4, mn_mm5, mn_mm6, mn_and, mn_or, mn_an, mn_shl, mn_shr, mn_div, mn_rem, mn_clamp, mn_in, mn_inm, mn_nz, mn_zo, mn_min, mn_max, mn_abs, mn_rfit, mn_cp, mn_les, mn_gre, mn_a127, mn_a15, mn_a1, mn_a255, mn_tn0, mn_tn0e, mn_tnr, mn_tnz, mr_get, mr_ne, mr_put, mu_ne, mu_eq, mj_bk_i, mj_bk_v, mj_bk_x, decide_eq_true_eq, decide_true, decide_false, Bool.false_eq_true, Bool.true_eq_false, reduceCtorEq, mt_le_t, mt_le_f, mt_lt_t, mt_lt_f, mt_eq_t, mt_eq_f, mt_ee, not_true_eq_false, not_false_eq_true, and_true, true_and, and_self, Nat.zero_add, Nat.add_zero, Nat.one_mul, Nat.mul_one, Nat.reduceAdd, Nat.reduceMul, Nat.reduceSub, Nat.reducePow, Nat.reduceDiv, Nat.reduceMod, ↓reduceIte, c349]
theorem c87m : mj_call X (d + 1) 87 [.ref 34, .int (-1)] (mw_U s) = some (.inl (some (.int (nI 0))), mw_U s) := by
  simp (disch := first | assumption | exact hf _ | omega) only [b87, b87_0, b87_4, b87_10, b87_12, b87_23, b87_36, nI_add, mn_mul, mn_sub, mn_m1, mn_m8, mn_eq, mn_lt, mn_le, mn_eq0, mn_0eq, mn_lt0, mn_0lt, mn_le0, mn_0le, mn_eqm, mn_meq, mn_ltm, mn_mlt, mn_lem, mn_mle, mn_mm1, mn_mm2, mn_mm3, mn_mm4, mn_mm5, mn_mm6, mn_and, mn_or, mn_an, mn_shl, mn_shr, mn_div, mn_rem, mn_clamp, mn_in, mn_inm, mn_nz, mn_zo, mn_min, mn_max, mn_abs, mn_rfit, mn_cp, mn_les, mn_gre, mn_a127, mn_a15, mn_a1, mn_a255, mn_tn0, mn_tn0e, mn_tnr, mn_tnz, mr_get, mr_ne, mr_put, mu_ne, mu_eq, mj_bk_i, mj_bk_v, mj_bk_x, decide_eq_true_eq, decide_true, decide_false, Bool.false_eq_true, Bool.true_eq_false, reduceCtorEq, mt_le_t, mt_le_f, mt_lt_t, mt_lt_f, mt_eq_t, mt_eq_f, mt_ee, not_true_eq_false, not_false_eq_true, and_true, true_and, and_self, Nat.zero_add, Nat.add_zero, Nat.one_mul, Nat.mul_one, Nat.reduceAdd, Nat.reduceMul, Nat.reduceSub, Nat.reducePow, Nat.reduceDiv, Nat.reduceMod, ↓reduceIte]
theorem c86 (hw : wf f L) (hF : mr_is s 4 64 f) (hB' : ∀ i, i < 28 → hB s i (fun v => decide (∃ x, x ∈ FL Q f σ 80 ∧ hv5 Q f x i = v))) : mj_call X (d + 2) 86 [.ref 34, .ref 3] (mw_U s) = some (.inl (some (.int (mo (fn_lk Q f σ)))), mw_U s) := by
  have k3 := mw_c_3
  have hf := wf_lt hw
  rw [b86]
  simp (disch := first | assumption | exact hf _ | omega) only [b86_0]
  obtain ⟨hI, g, e⟩ := mr_for (E := fun i o (_ : Unit) => mj_exec X (d + 2) 86 4 [some (.ref 34), some (.ref 3), some (.int (mo o)), some (.int (nI i))] [] (mw_U s)) (F := fun i (o : Option Nat) => if 0 < fh f i ∧ o.elim 0 (ulk Q f σ) < ulk Q f σ i then some i else o) (I := fun _ o => ∀ b, o = some b → b < 28) (N := 28) (by
    intro i o _ hi hI
    refine ⟨?_, (), ?_⟩
    · intro b hb
      split at hb
      · cases hb; exact hi
      · exact hI b hb
    have u1 := ulk_le (Q := Q) (f := f) (σ := σ) i
    have eo : mj_call X (d + 1) 87 [.ref 34, .int (mo o)] (mw_U s) = some (.inl (some (.int (nI (o.elim 0 (ulk Q f σ))))), mw_U s) := by
      cases o with
      | none => exact c87m
      | some b => exact c87 (hI b rfl) (hB' b (hI b rfl))
    have u2 : o.elim 0 (ulk Q f σ) ≤ 80 := by
      cases o with
      | none => exact Nat.zero_le _
      | some b => exact ulk_le b
    rw [b86_4 k3]
    by_cases h1 : 0 < fh f i
    · by_cases h2 : o.elim 0 (ulk Q f σ) < ulk Q f σ i
      · have em : mo (some i) = nI i := rfl
        simp (disch := first | assumption | exact hf _ | omega) only [b86, b86_0, b86_10, b86_15, b86_18, b86_23, b86_28, b86_31, b86_33, b86_39, nI_add, mn_mul, mn_sub, mn_m1, mn_m8, mn_eq, mn_lt, mn_le, mn_eq0, mn_0eq, mn_lt0, mn_0lt, mn_le0, mn_0le, mn_eqm, mn_meq, mn_ltm, mn_mlt, mn_lem, mn_mle, mn_mm1, mn_mm2, mn_mm3, mn_mm4, mn_mm5, mn_mm6, mn_and, mn_or, mn_an, mn_shl, mn_shr, mn_div, mn_rem, mn_clamp, mn_in, mn_inm, mn_nz, mn_zo, mn_min, mn_max, mn_abs, mn_rfit, mn_cp, mn_les, mn_gre, mn_a127, mn_a15, mn_a1, mn_a255, mn_tn0, mn_tn0e, mn_tnr, mn_tnz, mr_get, mr_ne, mr_put, mu_ne, mu_eq, mj_bk_i, mj_bk_v, mj_bk_x, decide_eq_true_eq, decide_true, decide_false, Bool.false_eq_true, Bool.true_eq_false, reduceCtorEq, mt_le_t, mt_le_f, mt_lt_t, mt_lt_f, mt_eq_t, mt_eq_f, mt_ee, not_true_eq_false, not_false_eq_true, and_true, true_and, and_self, Nat.zero_add, Nat.add_zero, Nat.one_mul, Nat.mul_one, Nat.reduceAdd, Nat.reduceMul, Nat.reduceSub, Nat.reducePow, Nat.reduceDiv, Nat.reduceMod, ↓reduceIte, r36 k3 hF hf hi, h1, Bool.toNat_true, c87 hi (hB' i hi), eo, h2, em]
      · simp (disch := first | assumption | exact hf _ | omega) only [b86, b86_0, b86_10, b86_15, b86_18, b86_23, b86_28, b86_31, b86_33, b86_39, nI_add, mn_mul, mn_sub, mn_m1, mn_m8, mn_eq, mn_lt, mn_le, mn_eq0, mn_0eq, mn_lt0, mn_0lt, mn_le0, mn_0le, mn_eqm, mn_meq, mn_ltm, mn_mlt, mn_lem, mn_mle, mn_mm1, mn_mm2, mn_mm3, mn_mm4, mn_mm5, mn_mm6, mn_and, mn_or, mn_an, mn_shl, mn_shr, mn_div, mn_rem, mn_clamp, mn_in, mn_inm, mn_nz, mn_zo, mn_min, mn_max, mn_abs, mn_rfit, mn_cp, mn_les, mn_gre, mn_a127, mn_a15, mn_a1, mn_a255, mn_tn0, mn_tn0e, mn_tnr, mn_tnz, mr_get, mr_ne, mr_put, mu_ne, mu_eq, mj_bk_i, mj_bk_v, mj_bk_x, decide_eq_true_eq, decide_true, decide_false, Bool.false_eq_true, Bool.true_eq_false, reduceCtorEq, mt_le_t, mt_le_f, mt_lt_t, mt_lt_f, mt_eq_t, mt_eq_f, mt_ee, not_true_eq_false, not_false_eq_true, and_true, true_and, and_self, Nat.zero_add, Nat.add_zero, Nat.one_mul, Nat.mul_one, Nat.reduceAdd, Nat.reduceMul, Nat.reduceSub, Nat.reducePow, Nat.reduceDiv, Nat.reduceMod, ↓reduceIte, r36 k3 hF hf hi, h1, Bool.toNat_true, c87 hi (hB' i hi), eo, h2]
    · simp (disch := first | assumption | exact hf _ | omega) only [b86, b86_0, b86_10, b86_15, b86_18, b86_23, b86_28, b86_31, b86_33, b86_39, nI_add, mn_mul, mn_sub, mn_m1, mn_m8, mn_eq, mn_lt, mn_le, mn_eq0, mn_0eq, mn_lt0, mn_0lt, mn_le0, mn_0le, mn_eqm, mn_meq, mn_ltm, mn_mlt, mn_lem, mn_mle, mn_mm1, mn_mm2, mn_mm3, mn_mm4, mn_mm5, mn_mm6, mn_and, mn_or, mn_an, mn_shl, mn_shr, mn_div, mn_rem, mn_clamp, mn_in, mn_inm, mn_nz, mn_zo, mn_min, mn_max, mn_abs, mn_rfit, mn_cp, mn_les, mn_gre, mn_a127, mn_a15, mn_a1, mn_a255, mn_tn0, mn_tn0e, mn_tnr, mn_tnz, mr_get, mr_ne, mr_put, mu_ne, mu_eq, mj_bk_i, mj_bk_v, mj_bk_x, decide_eq_true_eq, decide_true, decide_false, Bool.false_eq_true, Bool.true_eq_false, reduceCtorEq, mt_le_t, mt_le_f, mt_lt_t, mt_lt_f, mt_eq_t, mt_eq_f, mt_ee, not_true_eq_false, not_false_eq_true, and_true, true_and, and_self, Nat.zero_add, Nat.add_zero, Nat.one_mul, Nat.mul_one, Nat.reduceAdd, Nat.reduceMul, Nat.reduceSub, Nat.reducePow, Nat.reduceDiv, Nat.reduceMod, ↓reduceIte, r36 k3 hF hf hi, h1, Bool.toNat_false, false_and]
  ) (a := none) (by intro b hb; cases hb) () 28 (Nat.le_refl 28)
  refine e.trans ?_
  rw [b86_4 k3]
  simp (disch := first | assumption | exact hf _ | omega) only [b86, b86_0, b86_10, b86_15, b86_18, b86_23, b86_28, b86_31, b86_33, b86_39, nI_add, mn_mul, mn_sub, mn_m1, mn_m8, mn_eq, mn_lt, mn_le, mn_eq0, mn_0eq, mn_lt0, mn_0lt, mn_le0, mn_0le, mn_eqm, mn_meq, mn_ltm, mn_mlt, mn_lem, mn_mle, mn_mm1, mn_mm2, mn_mm3, mn_mm4, mn_mm5, mn_mm6, mn_and, mn_or, mn_an, mn_shl, mn_shr, mn_div, mn_rem, mn_clamp, mn_in, mn_inm, mn_nz, mn_zo, mn_min, mn_max, mn_abs, mn_rfit, mn_cp, mn_les, mn_gre, mn_a127, mn_a15, mn_a1, mn_a255, mn_tn0, mn_tn0e, mn_tnr, mn_tnz, mr_get, mr_ne, mr_put, mu_ne, mu_eq, mj_bk_i, mj_bk_v, mj_bk_x, decide_eq_true_eq, decide_true, decide_false, Bool.false_eq_true, Bool.true_eq_false, reduceCtorEq, mt_le_t, mt_le_f, mt_lt_t, mt_lt_f, mt_eq_t, mt_eq_f, mt_ee, not_true_eq_false, not_false_eq_true, and_true, true_and, and_self, Nat.zero_add, Nat.add_zero, Nat.one_mul, Nat.mul_one, Nat.reduceAdd, Nat.reduceMul, Nat.reduceSub, Nat.reducePow, Nat.reduceDiv, Nat.reduceMod, ↓reduceIte]
  rfl
theorem lk_lt : ∀ i, fn_lk Q f σ = some i → i < 28 := mr_it_inv (I := fun _ (o : Option Nat) => ∀ i, o = some i → i < 28) (fun i h => by cases h) (by
  intro i o hi h j hj
  split at hj
  · cases hj; exact hi
  · exact h j hj)
theorem q190 (hw : wf f L) (hF : mr_is s 4 64 f) (h54 : f 54 ≤ 999) (hq : rC s 18 Q) (ho : rOK Q) (hS : BS s 2 σ) (hO : sOK σ) {b : Bool} : ∃ t, mj_call X (d + 8) 190 [.ref 0, .int (nI b.toNat)] (mw_U s) = some (.inl (some (.int (if b then nI ((fn_lk Q f σ).elim 0 (ulk Q f σ)) else nm (fn_lk Q f σ)))), mw_U t) ∧ kg s t := by
  have k3 := mw_c_3
  have hb1 : b.toNat ≤ 1 := by cases b <;> decide
  obtain ⟨t, e, g, hR⟩ := c81 (X := X) (d := d) hw hF h54 hq ho hS hO
  have hF2 : mr_is t 4 64 f := mr_is_kg hF g (by unfold kM; omega)
  obtain ⟨t2, e2, g2, hB2⟩ := c84 (X := X) (d := d + 1) hw hF2 h54 (rC_kg hq g) ho hR
  have hF3 : mr_is t2 4 64 f := mr_is_kg hF2 g2 (by unfold kM; omega)
  refine ⟨t2, ?_, kg_trans g g2⟩
  have e3 := c86 (X := X) (d := d + 5) hw hF3 hB2
  cases b
  · simp (disch := first | assumption | exact hf _ | omega) only [b190, b190_0, b190_5, b190_20, b190_31, b190_38, b190_49, b190_52, b190_57, b190_61, b190_64, b190_72, nI_add, mn_mul, mn_sub, mn_m1, mn_m8, mn_eq, mn_lt, mn_le, mn_eq0, mn_0eq, mn_lt0, mn_0lt, mn_le0, mn_0le, mn_eqm, mn_meq, mn_ltm, mn_mlt, mn_lem, mn_mle, mn_mm1, mn_mm2, mn_mm3, mn_mm4, mn_mm5, mn_mm6, mn_and, mn_or, mn_an, mn_shl, mn_shr, mn_div, mn_rem, mn_clamp, mn_in, mn_inm, mn_nz, mn_zo, mn_min, mn_max, mn_abs, mn_rfit, mn_cp, mn_les, mn_gre, mn_a127, mn_a15, mn_a1, mn_a255, mn_tn0, mn_tn0e, mn_tnr, mn_tnz, mr_get, mr_ne, mr_put, mu_ne, mu_eq, mj_bk_i, mj_bk_v, mj_bk_x, decide_eq_true_eq, decide_true, decide_false, Bool.false_eq_true, Bool.true_eq_false, reduceCtorEq, mt_le_t, mt_le_f, mt_lt_t, mt_lt_f, mt_eq_t, mt_eq_f, mt_ee, not_true_eq_false, not_false_eq_true, and_true, true_and, and_self, Nat.zero_add, Nat.add_zero, Nat.one_mul, Nat.mul_one, Nat.reduceAdd, Nat.reduceMul, Nat.reduceSub, Nat.reducePow, Nat.reduceDiv, Nat.reduceMod, ↓reduceIte, p169 (w := 0) (k := 1) (by decide) (by decide), e, c1, e2, e3, Bool.toNat_false, p179 lk_lt]
  · have eo : ∀ d, mj_call X (d + 1) 87 [.ref 34, .int (mo (fn_lk Q f σ))] (mw_U t2) = some (.inl (some (.int (nI ((fn_lk Q f σ).elim 0 (ulk Q f σ))))), mw_U t2) := by
      intro d
      cases ho : fn_lk Q f σ with
      | none => exact c87m
      | some b => exact c87 (lk_lt b ho) (hB2 b (lk_lt b ho))
    simp (disch := first | assumption | exact hf _ | omega) only [b190, b190_0, b190_5, b190_20, b190_31, b190_38, b190_49, b190_52, b190_57, b190_61, b190_64, b190_72, nI_add, mn_mul, mn_sub, mn_m1, mn_m8, mn_eq, mn_lt, mn_le, mn_eq0, mn_0eq, mn_lt0, mn_0lt, mn_le0, mn_0le, mn_eqm, mn_meq, mn_ltm, mn_mlt, mn_lem, mn_mle, mn_mm1, mn_mm2, mn_mm3, mn_mm4, mn_mm5, mn_mm6, mn_and, mn_or, mn_an, mn_shl, mn_shr, mn_div, mn_rem, mn_clamp, mn_in, mn_inm, mn_nz, mn_zo, mn_min, mn_max, mn_abs, mn_rfit, mn_cp, mn_les, mn_gre, mn_a127, mn_a15, mn_a1, mn_a255, mn_tn0, mn_tn0e, mn_tnr, mn_tnz, mr_get, mr_ne, mr_put, mu_ne, mu_eq, mj_bk_i, mj_bk_v, mj_bk_x, decide_eq_true_eq, decide_true, decide_false, Bool.false_eq_true, Bool.true_eq_false, reduceCtorEq, mt_le_t, mt_le_f, mt_lt_t, mt_lt_f, mt_eq_t, mt_eq_f, mt_ee, not_true_eq_false, not_false_eq_true, and_true, true_and, and_self, Nat.zero_add, Nat.add_zero, Nat.one_mul, Nat.mul_one, Nat.reduceAdd, Nat.reduceMul, Nat.reduceSub, Nat.reducePow, Nat.reduceDiv, Nat.reduceMod, ↓reduceIte, p169 (w := 1) (k := 1) (by decide) (by decide), e, c1, e2, e3, Bool.toNat_true, eo]
theorem x190 (h : ib 0 1 w = false) : mj_call X (d + 8) 190 [.ref 0, .int w] (mw_U s) = some (.inr 0, mw_U (mw_x s)) := by
  simp (disch := first | assumption | exact hf _ | omega) only [b190, b190_0, b190_5, b190_20, b190_31, b190_38, b190_49, b190_52, b190_57, b190_61, b190_64, b190_72, nI_add, mn_mul, mn_sub, mn_m1, mn_m8, mn_eq, mn_lt, mn_le, mn_eq0, mn_0eq, mn_lt0, mn_0lt, mn_le0, mn_0le, mn_eqm, mn_meq, mn_ltm, mn_mlt, mn_lem, mn_mle, mn_mm1, mn_mm2, mn_mm3, mn_mm4, mn_mm5, mn_mm6, mn_and, mn_or, mn_an, mn_shl, mn_shr, mn_div, mn_rem, mn_clamp, mn_in, mn_inm, mn_nz, mn_zo, mn_min, mn_max, mn_abs, mn_rfit, mn_cp, mn_les, mn_gre, mn_a127, mn_a15, mn_a1, mn_a255, mn_tn0, mn_tn0e, mn_tnr, mn_tnz, mr_get, mr_ne, mr_put, mu_ne, mu_eq, mj_bk_i, mj_bk_v, mj_bk_x, decide_eq_true_eq, decide_true, decide_false, Bool.false_eq_true, Bool.true_eq_false, reduceCtorEq, mt_le_t, mt_le_f, mt_lt_t, mt_lt_f, mt_eq_t, mt_eq_f, mt_ee, not_true_eq_false, not_false_eq_true, and_true, true_and, and_self, Nat.zero_add, Nat.add_zero, Nat.one_mul, Nat.mul_one, Nat.reduceAdd, Nat.reduceMul, Nat.reduceSub, Nat.reducePow, Nat.reduceDiv, Nat.reduceMod, ↓reduceIte, x169 (show 1 < 1000 by decide) h]
end
