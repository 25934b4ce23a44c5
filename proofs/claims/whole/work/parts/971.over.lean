/-! the reference takes over what a text has told -/
section
variable {X : mj_X} {d : Nat} {s : mw_S} {g : Nat → Nat}
theorem mw_ext {s t : mw_S} (h : ∀ a b, s.1 a b = t.1 a b) (h2 : s.2 = t.2) : s = t := Prod.ext (funext fun a => funext fun b => h a b) h2
theorem c224 {k h : Nat} (hr : mw_rw k = some (.int, 2 * h)) (hh : h ≤ 700) : mj_call X d 224 [.ref k] (mw_U s) = some (.inl none, mw_U (mw_c s k k h 0 h)) := by
  have hq : nI (2 * h) / nI 2 = nI h := by rw [mn_div (by omega) (by omega)]; congr 1; omega
  have nz : mw_nz (nI 2) = true := by decide
  have lp : ∀ i, i ≤ h → mj_exec X d 224 2 [some (.ref k), some (.int (nI 0))] [] (mw_U s) = mj_exec X d 224 2 [some (.ref k), some (.int (nI i))] [] (mw_U (mw_c s k k h 0 i)) := by
    intro i
    induction i with
    | zero =>
      intro _
      have : mw_c s k k h 0 0 = s := mw_ext (fun a b => if_neg (by omega)) rfl
      rw [this]
    | succ i ih =>
      intro hi
      rw [ih (by omega), b224_2 hr, if_pos nz, hq, if_neg (by rw [mn_le (by omega) (by omega)]; omega), b224_10 hr, if_pos nz, hq, nI_add, if_pos (by rw [mn_in (by omega)]; exact decide_eq_true (by omega)), if_pos (by rw [mn_in (by omega)]; exact decide_eq_true (by omega)), nI_add, mn_clamp (by omega), mn_clamp (by omega)]
      congr 2
      refine mw_ext (fun a b => ?_) rfl
      rw [mw_p1]
      show (if a = k ∧ b = i then (if k = k ∧ 0 ≤ h + i ∧ h + i < 0 + i then s.1 k (h + (h + i - 0)) else s.1 k (h + i)) else (if a = k ∧ 0 ≤ b ∧ b < 0 + i then s.1 k (h + (b - 0)) else s.1 a b)) = (if a = k ∧ 0 ≤ b ∧ b < 0 + (i + 1) then s.1 k (h + (b - 0)) else s.1 a b)
      rw [if_neg (show ¬ (k = k ∧ 0 ≤ h + i ∧ h + i < 0 + i) by omega)]
      by_cases q : a = k ∧ b = i
      · obtain ⟨rfl, rfl⟩ := q
        rw [if_pos ⟨rfl, rfl⟩, if_pos ⟨rfl, by omega, by omega⟩, Nat.sub_zero]
      · rw [if_neg q]
        by_cases q2 : a = k ∧ 0 ≤ b ∧ b < 0 + i
        · rw [if_pos q2, if_pos ⟨q2.1, by omega, by omega⟩]
        · rw [if_neg q2, if_neg (by omega)]
  rw [b224, b224_0 hr, lp h (Nat.le_refl _), b224_2 hr, if_pos nz, hq, if_pos (by rw [mn_le (by omega) (by omega)]; omega), b224_27 hr]
theorem cc_at {k h : Nat} {a b : Nat} : (mw_c s k k h 0 h).1 a b = if a = k ∧ b < h then s.1 k (h + b) else s.1 a b := by
  show (if a = k ∧ 0 ≤ b ∧ b < 0 + h then s.1 k (h + (b - 0)) else s.1 a b) = _
  rw [Nat.sub_zero]
  by_cases q : a = k ∧ b < h
  · rw [if_pos q, if_pos (by omega)]
  · rw [if_neg q, if_neg (by omega)]
/-- people, as told -/
def oP (s : mw_S) (g : Nat → Nat) (i : Nat) : mw_S := (fun a b => if a = 55 ∧ b < i then nI (g b) else if a = 57 ∧ b < i then mo (fs g b) else if a = 58 ∧ b < i then nI (g (8 + b)) else s.1 a b, s.2)
def oQ (s : mw_S) (g : Nat → Nat) (i : Nat) : mw_S := (fun a b => if a = 59 ∧ b < i then nI (gh g b) else if a = 60 ∧ b < i then nI (gw g b) else if a = 61 ∧ b < i then nI (gc g b) else s.1 a b, s.2)
theorem oP_s {i : Nat} : mw_p (mw_p (mw_p (oP s g i) 55 i (nI (g i))) 57 i (mo (fs g i))) 58 i (nI (g (8 + i))) = oP s g (i + 1) := by
  refine mw_ext (fun a b => ?_) rfl
  rw [mw_p1, mw_p1, mw_p1]
  unfold oP
  by_cases h5 : a = 55
  · subst h5
    by_cases hb : b = i
    · subst hb; simp
    · have : (b < i + 1) = (b < i) := propext ⟨fun _ => by omega, fun _ => by omega⟩
      simp [hb, this]
  by_cases h7 : a = 57
  · subst h7
    by_cases hb : b = i
    · subst hb; simp
    · have : (b < i + 1) = (b < i) := propext ⟨fun _ => by omega, fun _ => by omega⟩
      simp [hb, this]
  by_cases h8 : a = 58
  · subst h8
    by_cases hb : b = i
    · subst hb; simp
    · have : (b < i + 1) = (b < i) := propext ⟨fun _ => by omega, fun _ => by omega⟩
      simp [hb, this]
  simp [h5, h7, h8]
theorem oQ_s {i : Nat} : mw_p (mw_p (mw_p (oQ s g i) 59 i (nI (gh g i))) 60 i (nI (gw g i))) 61 i (nI (gc g i)) = oQ s g (i + 1) := by
  refine mw_ext (fun a b => ?_) rfl
  rw [mw_p1, mw_p1, mw_p1]
  unfold oQ
  by_cases h5 : a = 59
  · subst h5
    by_cases hb : b = i
    · subst hb; simp
    · have : (b < i + 1) = (b < i) := propext ⟨fun _ => by omega, fun _ => by omega⟩
      simp [hb, this]
  by_cases h7 : a = 60
  · subst h7
    by_cases hb : b = i
    · subst hb; simp
    · have : (b < i + 1) = (b < i) := propext ⟨fun _ => by omega, fun _ => by omega⟩
      simp [hb, this]
  by_cases h8 : a = 61
  · subst h8
    by_cases hb : b = i
    · subst hb; simp
    · have : (b < i + 1) = (b < i) := propext ⟨fun _ => by omega, fun _ => by omega⟩
      simp [hb, this]
  simp [h5, h7, h8]
theorem oP_0 : oP s g 0 = s := mw_ext (fun a b => by unfold oP; simp) rfl
theorem oQ_0 : oQ s g 0 = s := mw_ext (fun a b => by unfold oQ; simp) rfl
theorem oP_o {i a b : Nat} (h : ¬ a = 55 ∧ ¬ a = 57 ∧ ¬ a = 58) : (oP s g i).1 a b = s.1 a b := by unfold oP; simp [h]
theorem oQ_o {i a b : Nat} (h : ¬ a = 59 ∧ ¬ a = 60 ∧ ¬ a = 61) : (oQ s g i).1 a b = s.1 a b := by unfold oQ; simp [h]
theorem lp_84 {i : Nat} (hG : GI g) (h45 : s.1 45 0 = nI (g 55)) (hp : ∀ p, p < g 55 → s.1 47 p = nI (g p) ∧ s.1 48 p = nI (g (8 + p)) ∧ s.1 49 p = mo (fs g p)) (hi : i ≤ 8) {l2 : Option Value} (hl : l2 = none ∨ ∃ x, l2 = some (.int x)) : ∃ l2', (l2' = none ∨ ∃ x, l2' = some (.int x)) ∧ mj_exec X d 223 84 [some (.ref 42), some (.int (nI 0)), l2] [] (mw_U s) = mj_exec X d 223 84 [some (.ref 42), some (.int (nI i)), l2'] [] (mw_U (oP s g i)) := by
  have hN := wf_n hG.1
  induction i with
  | zero => exact ⟨l2, hl, by rw [oP_0]⟩
  | succ i ih =>
    obtain ⟨l3, hl3, e⟩ := ih (by omega)
    have r47 := mw_r_47
    have r48 := mw_r_48
    have r49 := mw_r_49
    have r55 := mw_r_55
    have r57 := mw_r_57
    have r58 := mw_r_58
    have i8 : ¬ nI 8 ≤ nI i := by rw [mn_le (by omega) (by omega)]; omega
    have i16 : mw_in 16 (nI i) = true := by rw [mn_in (by omega)]; exact decide_eq_true (by omega)
    have i88 : mw_in 8 (nI i) = true := by rw [mn_in (by omega)]; exact decide_eq_true (by omega)
    have i6 : mw_in 6 (nI 0) = true := by decide
    have ci : (nI i).toNatClampNeg = i := mn_clamp (by omega)
    have c0 : (nI 0).toNatClampNeg = 0 := mn_clamp (by omega)
    have k45 : (oP s g i).1 45 0 = nI (g 55) := by rw [oP_o (by decide)]; exact h45
    by_cases q : i < g 55
    · obtain ⟨x1, x2, x3⟩ := hp i q
      have j47 : (oP s g i).1 47 i = nI (g i) := by rw [oP_o (by decide)]; exact x1
      have j48 : (oP s g i).1 48 i = nI (g (8 + i)) := by rw [oP_o (by decide)]; exact x2
      have j49 : (oP s g i).1 49 i = mo (fs g i) := by rw [oP_o (by decide)]; exact x3
      refine ⟨some (.int (nI 1)), Or.inr ⟨_, rfl⟩, e.trans ?_⟩
      rw [b223_84, if_neg i8, b223_90, if_pos i6, c0, k45, if_neg (by rw [mn_le (by omega) (by omega)]; omega), b223_100, b223_105, if_neg (by decide), b223_115 r55, if_pos i16, ci, j47, b223_125 r55, if_pos i88, if_neg (by decide), b223_135 r57, if_pos i16, ci, mw_pne (by decide), j49, b223_145 r57, if_pos i88, if_neg (by decide), b223_155 r58, if_pos i16, ci, mw_pne (by decide), mw_pne (by decide), j48, b223_165 r58, if_pos i88, nI_add, ci, oP_s]
    · obtain ⟨x1, x2⟩ := hG.2.2.2.1 i (by omega) (by omega)
      have x3 : fs g i = none := by
        cases hs : fs g i with
        | none => rfl
        | some q' =>
          have := (wf_s hG.1 (by omega) hs).2.2.2
          have := lv_n hG.1 this
          omega
      refine ⟨some (.int (nI 0)), Or.inr ⟨_, rfl⟩, e.trans ?_⟩
      have ep := oP_s (s := s) (g := g) (i := i)
      rw [x1, x2, x3] at ep
      rw [b223_84, if_neg i8, b223_90, if_pos i6, c0, k45, if_pos (by rw [mn_le (by omega) (by omega)]; omega), b223_104, b223_105, if_pos (by decide), b223_124 r55, b223_125 r55, if_pos i88, if_pos (by decide), b223_144 r57, b223_145 r57, if_pos i88, if_pos (by decide), b223_164 r58, b223_165 r58, if_pos i88, nI_add, ci]
      exact congrArg (fun z => mj_exec X d 223 84 [some (.ref 42), some (.int (nI (i + 1))), some (.int (nI 0))] [] (mw_U z)) ep
theorem gw_0 (hw : wf g (g 52)) {k : Nat} (h : gh g k = 0) : gw g k = 0 := by
  unfold gh at h
  unfold gw
  by_cases q : k / 8 < k % 8
  · have hk := Nat.mod_lt k (show 8 > 0 by decide)
    have hp := fp_lt (p := k / 8) (q := k % 8) (by omega) hk (by omega)
    rw [if_pos q] at h ⊢
    unfold fw
    rw [(wf_z hw hp).mpr h]
  · rw [if_neg q]
theorem gc_0 (hG : GI g) (k : Nat) : gc g k = 0 := by
  unfold gc
  by_cases q : k / 8 < k % 8
  · have hk := Nat.mod_lt k (show 8 > 0 by decide)
    have hp := fp_lt (p := k / 8) (q := k % 8) (by omega) hk (by omega)
    rw [if_pos q]
    exact hG.2.2.2.2.1 _ hp
  · rw [if_neg q]
theorem lp_174 {i : Nat} (hG : GI g) (h50 : ∀ k, k < 64 → s.1 50 k = nI (gh g k)) (h51 : ∀ k, k < 64 → 0 < gh g k → s.1 51 k = nI (gw g k)) (hi : i ≤ 64) {l2 : Option Value} : mj_exec X d 223 174 [some (.ref 42), some (.int (nI 0)), l2] [] (mw_U s) = mj_exec X d 223 174 [some (.ref 42), some (.int (nI i)), l2] [] (mw_U (oQ s g i)) := by
  induction i with
  | zero => rw [oQ_0]
  | succ i ih =>
    rw [ih (by omega)]
    have r60 := mw_r_60
    have i64 : ¬ nI 64 ≤ nI i := by rw [mn_le (by omega) (by omega)]; omega
    have i128 : mw_in 128 (nI i) = true := by rw [mn_in (by omega)]; exact decide_eq_true (by omega)
    have i6 : mw_in 64 (nI i) = true := by rw [mn_in (by omega)]; exact decide_eq_true (by omega)
    have ci : (nI i).toNatClampNeg = i := mn_clamp (by omega)
    have j50 : (oQ s g i).1 50 i = nI (gh g i) := by rw [oQ_o (by decide)]; exact h50 i (by omega)
    have hb := gh_lt g i
    have ep := oQ_s (s := s) (g := g) (i := i)
    rw [gc_0 hG] at ep
    by_cases q : gh g i = 0
    · rw [q, gw_0 hG.1 q] at ep
      rw [b223_174, if_neg i64, b223_180, if_pos i128, if_pos i6, if_pos i6, ci, j50, mw_peq, if_pos (by rw [q]; decide), b223_215 r60, b223_216 r60, if_pos i6, if_pos i6, nI_add, ci, q]
      exact congrArg (fun z => mj_exec X d 223 174 [some (.ref 42), some (.int (nI (i + 1))), l2] [] (mw_U z)) ep
    · have j51 : (mw_p (oQ s g i) 59 i (nI (gh g i))).1 51 i = nI (gw g i) := by rw [mw_pne (by decide), oQ_o (by decide)]; exact h51 i (by omega) (by omega)
      rw [b223_174, if_neg i64, b223_180, if_pos i128, if_pos i6, if_pos i6, ci, j50, mw_peq, if_neg (by rw [mn_le0 (by omega)]; omega), b223_206 r60, if_pos i128, ci, j51, b223_216 r60, if_pos i6, if_pos i6, nI_add, ci]
      exact congrArg (fun z => mj_exec X d 223 174 [some (.ref 42), some (.int (nI (i + 1))), l2] [] (mw_U z)) ep
/-- all rows' second halves into their first ones -/
def o9 (s : mw_S) : mw_S := mw_c (mw_c (mw_c (mw_c (mw_c (mw_c (mw_c (mw_c (mw_c s 45 45 3 0 3) 46 46 8 0 8) 47 47 8 0 8) 48 48 8 0 8) 49 49 8 0 8) 50 50 64 0 64) 51 51 64 0 64) 52 52 700 0 700) 53 53 700 0 700
theorem o9_at {a b : Nat} : (o9 s).1 a b = if a = 45 ∧ b < 3 then s.1 45 (3 + b) else if a = 46 ∧ b < 8 then s.1 46 (8 + b) else if a = 47 ∧ b < 8 then s.1 47 (8 + b) else if a = 48 ∧ b < 8 then s.1 48 (8 + b) else if a = 49 ∧ b < 8 then s.1 49 (8 + b) else if a = 50 ∧ b < 64 then s.1 50 (64 + b) else if a = 51 ∧ b < 64 then s.1 51 (64 + b) else if a = 52 ∧ b < 700 then s.1 52 (700 + b) else if a = 53 ∧ b < 700 then s.1 53 (700 + b) else s.1 a b := by
  unfold o9
  simp only [cc_at]
  by_cases h5 : a = 45
  · subst h5; simp
  by_cases h6 : a = 46
  · subst h6; simp
  by_cases h7 : a = 47
  · subst h7; simp
  by_cases h8 : a = 48
  · subst h8; simp
  by_cases h9 : a = 49
  · subst h9; simp
  by_cases h10 : a = 50
  · subst h10; simp
  by_cases h11 : a = 51
  · subst h11; simp
  by_cases h12 : a = 52
  · subst h12; simp
  by_cases h13 : a = 53
  · subst h13; simp
  simp [h5, h6, h7, h8, h9, h10, h11, h12, h13]
end
