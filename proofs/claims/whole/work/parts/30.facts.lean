/-! facts for the runs of methods: guards, constants, links, cells -/
def mw_nz (x : Int32) : Bool := decide (¬ x = 0)
def mw_zo (x : Int32) : Bool := decide (x = 0 ∨ x = 1)
def mw_cp (n0 n1 : Nat) (sp dp n : Int32) : Bool := decide (¬ sp < 0 ∧ ¬ dp < 0 ∧ ¬ n < 0 ∧ sp.toNatClampNeg + n.toNatClampNeg ≤ n0 ∧ dp.toNatClampNeg + n.toNatClampNeg ≤ n1)
def mw_min (x z : Int32) : Int32 := if z < x then z else x
def mw_max (x z : Int32) : Int32 := if x < z then z else x
def mw_abs (x : Int32) : Int32 := if 0 ≤ x then x else 0 - x
def mw_les (j : Nat) : Int32 := mj_les.getD j 0
def mw_gre (j : Nat) : Int32 := mj_gre.getD j 0
theorem mw_ka0 (X : mj_X) : mj_ka X 1000000 = some (.int, 28, mw_les) := rfl
theorem mw_ka1 (X : mj_X) : mj_ka X 1000001 = some (.int, 28, mw_gre) := rfl
theorem mw_ka2 (X : mj_X) : mj_ka X 1000002 = some (.int, X.1, X.2) := rfl
def mw_tl {α : Type} (x : Int32) (lo : Int) : List α → α → α
  | [], D => D
  | t :: r, D => if x.toInt = lo then t else mw_tl x (lo + 1) r D
theorem mw_tl_lt {α : Type} {x : Int32} : ∀ {lo : Int} {l : List α} {D : α}, x.toInt < lo → mw_tl x lo l D = D
  | _, [], _, _ => rfl
  | lo, t :: r, D, h => by
    rw [mw_tl, if_neg (by omega)]
    exact mw_tl_lt (by omega)
theorem mw_tl_gt {α : Type} {x : Int32} : ∀ {lo : Int} {l : List α} {D : α}, lo + l.length ≤ x.toInt → mw_tl x lo l D = D
  | _, [], _, _ => rfl
  | lo, t :: r, D, h => by
    rw [List.length_cons] at h
    rw [mw_tl, if_neg (by omega)]
    exact mw_tl_gt (by omega)
theorem mw_tl_at {α : Type} {x : Int32} : ∀ {lo : Int} {l : List α} {D t : α}, lo ≤ x.toInt → l[(x.toInt - lo).toNat]? = some t → mw_tl x lo l D = t
  | _, [], _, _, _, h => by cases h
  | lo, a :: r, D, t, h0, h => by
    rw [mw_tl]
    by_cases he : x.toInt = lo
    · rw [if_pos he]
      have e0 : (x.toInt - lo).toNat = 0 := by omega
      rw [e0] at h
      exact Option.some.inj h
    · rw [if_neg he]
      have e1 : (x.toInt - lo).toNat = (x.toInt - (lo + 1)).toNat + 1 := by omega
      rw [e1, List.getElem?_cons_succ] at h
      exact mw_tl_at (by omega) h
section MWH
variable {X : mj_X} {d y pc : Nat} {L : mj_L} {st r : List Value} {w : mj_W} {M : mj_M} {s : mw_S}
theorem mw_q_tsw (hM : mj_meth y = some M) {x : Int32} {dflt lo hi : Int} {offs : Array Int} {len td : Nat} (tl : List Nat) (hd : decode M.2.1 pc = .ok (.tableswitch dflt lo hi offs, len)) (h1 : (pc : Int) + dflt = (td : Int)) (h2 : offs.toList.map (fun o => (pc : Int) + o) = tl.map (fun (t : Nat) => (t : Int))) (h3 : lo + tl.length = hi + 1) : mj_exec X d y pc L (.int x :: r) w = mw_tl x lo (tl.map fun t => mj_exec X d y t L r w) (mj_exec X d y td L r w) := by
  have h0 : mj_step X M (.tableswitch dflt lo hi offs) len pc L (.int x :: r) w = mj_tsw dflt lo hi offs x pc L r w := rfl
  have hj : ∀ {off : Int} {t : Nat}, (pc : Int) + off = (t : Int) → mj_jmp pc off L r w = some (.inl (t, L, r, w)) := by
    intro off t ht
    rw [mj_jmp, ht, if_pos (Int.natCast_nonneg _), Int.toNat_natCast]
  unfold mj_tsw at h0
  by_cases ha : x.toInt < lo
  · rw [if_pos ha, hj h1] at h0
    rw [mw_tl_lt ha]
    exact mj_xi hM hd h0
  · rw [if_neg ha] at h0
    by_cases hb : hi < x.toInt
    · rw [if_pos hb, hj h1] at h0
      rw [mw_tl_gt (by rw [List.length_map]; omega)]
      exact mj_xi hM hd h0
    · rw [if_neg hb] at h0
      have hi2 : (x.toInt - lo).toNat < tl.length := by omega
      have ht : (tl.map fun t => mj_exec X d y t L r w)[(x.toInt - lo).toNat]? = some (mj_exec X d y tl[(x.toInt - lo).toNat] L r w) := by
        rw [List.getElem?_map, List.getElem?_eq_getElem hi2]; rfl
      rw [mw_tl_at (by omega) ht]
      have h4 : (offs.toList.map (fun o => (pc : Int) + o))[(x.toInt - lo).toNat]? = some ((tl[(x.toInt - lo).toNat] : Nat) : Int) := by
        rw [h2, List.getElem?_map, List.getElem?_eq_getElem hi2]; rfl
      rw [List.getElem?_map, Array.getElem?_toList] at h4
      cases ho : offs[(x.toInt - lo).toNat]? with
      | none => rw [ho] at h4; cases h4
      | some off =>
        rw [ho] at h4 h0
        simp only [Option.map_some, Option.some.injEq] at h4
        simp only [hj h4] at h0
        exact mj_xi hM hd h0
theorem mw_h_idiv (hM : mj_meth y = some M) {x z : Int32} (hd : decode M.2.1 pc = .ok (.idiv, 1)) : mj_exec X d y pc L (.int z :: .int x :: r) w = if mw_nz z = true then mj_exec X d y (pc + 1) L (.int (x / z) :: r) w else none := by
  by_cases h : mw_nz z = true
  · rw [if_pos h]; exact mj_q_idiv hM hd (of_decide_eq_true h)
  · rw [if_neg h]
    have hz : z = 0 := Decidable.not_not.mp (fun q => h (decide_eq_true q))
    exact mw_none hM hd (show (if 1 = 1 then (if z = 0 then none else mj_bin (fun x y => x / y) pc L (.int z :: .int x :: r) w) else none) = none by rw [if_pos rfl, if_pos hz])
theorem mw_h_irem (hM : mj_meth y = some M) {x z : Int32} (hd : decode M.2.1 pc = .ok (.irem, 1)) : mj_exec X d y pc L (.int z :: .int x :: r) w = if mw_nz z = true then mj_exec X d y (pc + 1) L (.int (x - x / z * z) :: r) w else none := by
  by_cases h : mw_nz z = true
  · rw [if_pos h]; exact mj_q_irem hM hd (of_decide_eq_true h)
  · rw [if_neg h]
    have hz : z = 0 := Decidable.not_not.mp (fun q => h (decide_eq_true q))
    exact mw_none hM hd (show (if 1 = 1 then (if z = 0 then none else mj_bin (fun x y => x - x / y * y) pc L (.int z :: .int x :: r) w) else none) = none by rw [if_pos rfl, if_pos hz])
theorem mw_in_no {n : Nat} {i : Int32} (h : ¬ mw_in n i = true) : i < 0 ∨ n ≤ i.toNatClampNeg := Decidable.not_not.mp (fun q => h (decide_eq_true q))
theorem mw_at_row {k n : Nat} {ty : FieldType} (h : mw_rw k = some (ty, n)) : k < 1000000 ∧ (mw_U s).1[k]? = some (.inl (ty, n, .inl (s.1 k))) := ⟨mw_lt (mw_rw_at h), by rw [mw_at, mw_rw_at h]; rfl⟩
theorem mw_at_lrow {k n : Nat} (h : mw_ll k = some n) : k < 1000000 ∧ (mw_U s).1[k]? = some (.inl (.long, n, .inr (.inl (s.2.1 k)))) := ⟨mw_lt (mw_ll_at h), by rw [mw_at, mw_ll_at h]; rfl⟩
theorem mw_h_iald (hM : mj_meth y = some M) {i : Int32} {k n : Nat} (hd : decode M.2.1 pc = .ok (.iaload, 1)) (hr : mw_rw k = some (.int, n)) : mj_exec X d y pc L (.int i :: .ref k :: r) (mw_U s) = if mw_in n i = true then mj_exec X d y (pc + 1) L (.int (s.1 k i.toNatClampNeg) :: r) (mw_U s) else none := by
  by_cases h : mw_in n i = true
  · rw [if_pos h]; exact mw_q_iald hM hd hr h
  · rw [if_neg h]
    obtain ⟨h1, h2⟩ := mw_at_row (s := s) hr
    exact mw_none hM hd (show (if 1 = 1 then mj_iald pc X L (.int i :: .ref k :: r) (mw_U s) else none) = none by simp only [mj_iald, mj_arr, if_pos h1, h2, if_pos (mw_in_no h), if_true])
theorem mw_h_bald (hM : mj_meth y = some M) {i : Int32} {k n : Nat} (hd : decode M.2.1 pc = .ok (.baload, 1)) (hr : mw_rw k = some (.byte, n)) : mj_exec X d y pc L (.int i :: .ref k :: r) (mw_U s) = if mw_in n i = true then mj_exec X d y (pc + 1) L (.int (s.1 k i.toNatClampNeg) :: r) (mw_U s) else none := by
  by_cases h : mw_in n i = true
  · rw [if_pos h]; exact mw_q_bald hM hd hr h
  · rw [if_neg h]
    obtain ⟨h1, h2⟩ := mw_at_row (s := s) hr
    exact mw_none hM hd (show (if 1 = 1 then mj_bald pc X L (.int i :: .ref k :: r) (mw_U s) else none) = none by simp only [mj_bald, mj_arr, if_pos h1, h2, if_pos (mw_in_no h), if_true])
theorem mw_h_zald (hM : mj_meth y = some M) {i : Int32} {k n : Nat} (hd : decode M.2.1 pc = .ok (.baload, 1)) (hr : mw_rw k = some (.boolean, n)) : mj_exec X d y pc L (.int i :: .ref k :: r) (mw_U s) = if mw_in n i = true then mj_exec X d y (pc + 1) L (.int (s.1 k i.toNatClampNeg) :: r) (mw_U s) else none := by
  by_cases h : mw_in n i = true
  · rw [if_pos h]; exact mw_q_zald hM hd hr h
  · rw [if_neg h]
    obtain ⟨h1, h2⟩ := mw_at_row (s := s) hr
    exact mw_none hM hd (show (if 1 = 1 then mj_bald pc X L (.int i :: .ref k :: r) (mw_U s) else none) = none by simp only [mj_bald, mj_arr, if_pos h1, h2, if_pos (mw_in_no h), if_true])
theorem mw_h_lald (hM : mj_meth y = some M) {i : Int32} {k n : Nat} (hd : decode M.2.1 pc = .ok (.laload, 1)) (hr : mw_ll k = some n) : mj_exec X d y pc L (.int i :: .ref k :: r) (mw_U s) = if mw_in n i = true then mj_exec X d y (pc + 1) L (.long (s.2.1 k i.toNatClampNeg) :: r) (mw_U s) else none := by
  by_cases h : mw_in n i = true
  · rw [if_pos h]; exact mw_q_lald hM hd hr h
  · rw [if_neg h]
    obtain ⟨h1, h2⟩ := mw_at_lrow (s := s) hr
    exact mw_none hM hd (show (if 1 = 1 then mj_lald pc L (.int i :: .ref k :: r) (mw_U s) else none) = none by simp only [mj_lald, if_pos h1, h2, if_pos (mw_in_no h), if_true])
theorem mw_h_iakd (hM : mj_meth y = some M) {i : Int32} {k n : Nat} {f : Nat → Int32} (hd : decode M.2.1 pc = .ok (.iaload, 1)) (hk : ¬ k < 1000000) (hr : mj_ka X k = some (.int, n, f)) : mj_exec X d y pc L (.int i :: .ref k :: r) w = if mw_in n i = true then mj_exec X d y (pc + 1) L (.int (f i.toNatClampNeg) :: r) w else none := by
  by_cases h : mw_in n i = true
  · rw [if_pos h]; exact mw_q_iakd hM hd hk hr h
  · rw [if_neg h]
    exact mw_none hM hd (show (if 1 = 1 then mj_iald pc X L (.int i :: .ref k :: r) w else none) = none by simp only [mj_iald, mj_arr, if_neg hk, hr, if_pos (mw_in_no h), if_true])
theorem mw_h_bakd (hM : mj_meth y = some M) {i : Int32} {k n : Nat} {f : Nat → Int32} (hd : decode M.2.1 pc = .ok (.baload, 1)) (hk : ¬ k < 1000000) (hr : mj_ka X k = some (.byte, n, f)) : mj_exec X d y pc L (.int i :: .ref k :: r) w = if mw_in n i = true then mj_exec X d y (pc + 1) L (.int (f i.toNatClampNeg) :: r) w else none := by
  by_cases h : mw_in n i = true
  · rw [if_pos h]; exact mw_q_bakd hM hd hk hr h
  · rw [if_neg h]
    exact mw_none hM hd (show (if 1 = 1 then mj_bald pc X L (.int i :: .ref k :: r) w else none) = none by simp only [mj_bald, mj_arr, if_neg hk, hr, if_pos (mw_in_no h), if_true])
theorem mw_h_iast (hM : mj_meth y = some M) {i x : Int32} {k n : Nat} (hd : decode M.2.1 pc = .ok (.iastore, 1)) (hr : mw_rw k = some (.int, n)) : mj_exec X d y pc L (.int x :: .int i :: .ref k :: r) (mw_U s) = if mw_in n i = true then mj_exec X d y (pc + 1) L r (mw_U (mw_p s k i.toNatClampNeg x)) else none := by
  by_cases h : mw_in n i = true
  · rw [if_pos h]; exact mw_q_iast hM hd hr h
  · rw [if_neg h]
    obtain ⟨h1, h2⟩ := mw_at_row (s := s) hr
    exact mw_none hM hd (show (if 1 = 1 then mj_iast pc L (.int x :: .int i :: .ref k :: r) (mw_U s) else none) = none by simp only [mj_iast, if_pos h1, h2, if_pos (mw_in_no h), if_true])
theorem mw_h_bast (hM : mj_meth y = some M) {i x : Int32} {k n : Nat} (hd : decode M.2.1 pc = .ok (.bastore, 1)) (hr : mw_rw k = some (.byte, n)) : mj_exec X d y pc L (.int x :: .int i :: .ref k :: r) (mw_U s) = if mw_in n i = true then mj_exec X d y (pc + 1) L r (mw_U (mw_p s k i.toNatClampNeg (vp_nar .byte x))) else none := by
  by_cases h : mw_in n i = true
  · rw [if_pos h]; exact mw_q_bast hM hd hr h
  · rw [if_neg h]
    obtain ⟨h1, h2⟩ := mw_at_row (s := s) hr
    exact mw_none hM hd (show (if 1 = 1 then mj_bast pc L (.int x :: .int i :: .ref k :: r) (mw_U s) else none) = none by simp only [mj_bast, if_pos h1, h2, if_pos (mw_in_no h), if_true])
theorem mw_h_zast (hM : mj_meth y = some M) {i x : Int32} {k n : Nat} (hd : decode M.2.1 pc = .ok (.bastore, 1)) (hr : mw_rw k = some (.boolean, n)) : mj_exec X d y pc L (.int x :: .int i :: .ref k :: r) (mw_U s) = if mw_in n i = true then mj_exec X d y (pc + 1) L r (mw_U (mw_p s k i.toNatClampNeg (vp_nar .boolean x))) else none := by
  by_cases h : mw_in n i = true
  · rw [if_pos h]; exact mw_q_zast hM hd hr h
  · rw [if_neg h]
    obtain ⟨h1, h2⟩ := mw_at_row (s := s) hr
    exact mw_none hM hd (show (if 1 = 1 then mj_bast pc L (.int x :: .int i :: .ref k :: r) (mw_U s) else none) = none by simp only [mj_bast, if_pos h1, h2, if_pos (mw_in_no h), if_true])
theorem mw_h_last (hM : mj_meth y = some M) {i : Int32} {x : Int64} {k n : Nat} (hd : decode M.2.1 pc = .ok (.lastore, 1)) (hr : mw_ll k = some n) : mj_exec X d y pc L (.long x :: .int i :: .ref k :: r) (mw_U s) = if mw_in n i = true then mj_exec X d y (pc + 1) L r (mw_U (mw_pl s k i.toNatClampNeg x)) else none := by
  by_cases h : mw_in n i = true
  · rw [if_pos h]; exact mw_q_last hM hd hr h
  · rw [if_neg h]
    obtain ⟨h1, h2⟩ := mw_at_lrow (s := s) hr
    exact mw_none hM hd (show (if 1 = 1 then mj_last pc L (.long x :: .int i :: .ref k :: r) (mw_U s) else none) = none by simp only [mj_last, if_pos h1, h2, if_pos (mw_in_no h), if_true])
theorem mw_h_putz (hM : mj_meth y = some M) {ix ci j k : Nat} {x : Int32} (hd : decode M.2.1 pc = .ok (.putfield ix, 3)) (hp : mj_pool M.2.2.2.2.2.1 ix = some (0, ci, j)) (hc : mw_cl k = some ci) (hf : mw_fd k j = some none) (h10 : ci < 10 ∧ j < mj_N ci) (hty : mj_ty ci j = .boolean) (hfin : mj_fin ci j = false ∨ (M.2.2.2.2.2.2.1 = true ∧ M.2.2.2.2.2.1 = ci)) : mj_exec X d y pc L (.int x :: .ref k :: r) (mw_U s) = if mw_zo x = true then mj_exec X d y (pc + 3) L r (mw_U (mw_p s k j x)) else none := by
  by_cases h : mw_zo x = true
  · rw [if_pos h]; exact mw_q_putz hM hd hp hc hf h10 hty hfin (of_decide_eq_true h)
  · rw [if_neg h]
    obtain ⟨fs, h1, h2⟩ := mw_fd_at hc hf
    have hx : ¬ (x = 0 ∨ x = 1) := fun q => h (decide_eq_true q)
    have hfit : ¬ mj_fit (mj_ty ci j) (.int x) = true := by
      rw [hty]
      intro q
      apply hx
      simp only [mj_fit, Bool.or_eq_true, beq_iff_eq] at q
      exact q
    refine mw_none hM hd (show (if 3 = 3 then mj_putf M (mj_pool M.2.2.2.2.2.1 ix) pc L (.int x :: .ref k :: r) (mw_U s) else none) = none from ?_)
    rw [if_pos rfl, hp]
    simp only [mj_putf]
    rw [if_pos (mw_lt h1), mw_at, h1]
    simp only [Option.map_some, mw_cell]
    rw [if_neg (fun q => hfit q.2.2.2.2.1)]
theorem mw_h_iret (hM : mj_meth y = some M) {x : Int32} {t : Option FieldType} (hd : decode M.2.1 pc = .ok (.ireturn, 1)) (hf : M.2.2.2.1 = t) : mj_exec X d y pc L [.int x] w = if mj_rfit t x = true then some (.inl (some (.int x)), w) else none := by
  subst hf
  by_cases h : mj_rfit M.2.2.2.1 x = true
  · rw [if_pos h]; exact mj_q_iret hM hd h
  · rw [if_neg h]
    exact mw_none hM hd (show (if 1 = 1 then mj_iret M [.int x] w else none) = none by simp only [mj_iret, if_neg h, if_true])
theorem mw_h_copy (hM : mj_meth y = some M) {ix a b ks kd n0 n1 : Nat} {n dp sp : Int32} (hd : decode M.2.1 pc = .ok (.invokestatic ix, 3)) (hp : mj_pool M.2.2.2.2.2.1 ix = some (4, a, b)) (hs : mw_rw ks = some (.int, n0)) (hdd : mw_rw kd = some (.int, n1)) (hcat : (r.map fun v => v.category).sum ≤ 8) : mj_exec X d y pc L (.int n :: .int dp :: .ref kd :: .int sp :: .ref ks :: r) (mw_U s) = if mw_cp n0 n1 sp dp n = true then mj_exec X d y (pc + 3) L r (mw_U (mw_c s ks kd sp.toNatClampNeg dp.toNatClampNeg n.toNatClampNeg)) else none := by
  by_cases h : mw_cp n0 n1 sp dp n = true
  · rw [if_pos h]
    obtain ⟨h1, h2, h3, h4, h5⟩ := of_decide_eq_true h
    exact mw_q_copy hM hd hp hs hdd hcat h1 h2 h3 h4 h5
  · rw [if_neg h]
    have hno : ¬ (¬ sp < 0 ∧ ¬ dp < 0 ∧ ¬ n < 0 ∧ sp.toNatClampNeg + n.toNatClampNeg ≤ n0 ∧ dp.toNatClampNeg + n.toNatClampNeg ≤ n1) := fun q => h (decide_eq_true q)
    obtain ⟨e1, f1⟩ := mw_at_row (s := s) hs
    obtain ⟨e2, f2⟩ := mw_at_row (s := s) hdd
    refine mw_none hM hd (show (if 3 = 3 then mj_invs (mj_pool M.2.2.2.2.2.1 ix) pc L (.int n :: .int dp :: .ref kd :: .int sp :: .ref ks :: r) (mw_U s) else none) = none from ?_)
    rw [if_pos rfl, hp]
    simp only [mj_invs, mj_copy]
    split
    · next hc =>
      rw [f1, f2]
      simp only
      rw [if_neg (fun q => hno ⟨hc.2.2.2.1, hc.2.2.2.2.1, hc.2.2.2.2.2, q.1, q.2⟩)]
    · rfl
theorem mw_q_alent (hM : mj_meth y = some M) {k : Nat} {l : List Nat} (hd : decode M.2.1 pc = .ok (.arraylength, 1)) (hr : mw_sh[k]? = some (.inr (.inr (.inr l)))) : mj_exec X d y pc L (.ref k :: r) (mw_U s) = mj_exec X d y (pc + 1) L (.int (nI l.length) :: r) (mw_U s) := by
  refine mj_xi hM hd (show (if 1 = 1 then mj_alen pc X L (.ref k :: r) (mw_U s) else none) = _ from ?_)
  rw [if_pos rfl, mj_alen, if_pos (mw_lt hr), mw_at, hr]
  rfl
theorem mw_rcvS {k : Nat} (h : 1000100 ≤ k ∧ k < 1000123) : mj_rcv w k = some 12 := by
  unfold mj_rcv
  rw [if_neg (by omega), if_pos h]
theorem mw_neS {k : Nat} (h : 1000100 ≤ k ∧ k < 1000123) : k ≠ 1000300 := by omega
theorem mw_neo {k ci : Nat} (h : mw_cl k = some ci) : k ≠ 1000300 := by
  obtain ⟨fs, hf⟩ := mw_cl_at h
  have := mw_lt hf
  omega
theorem mw_nea {k n : Nat} {ty : FieldType} (h : mw_rw k = some (ty, n)) : k ≠ 1000300 := by
  have := mw_lt (mw_rw_at h)
  omega
theorem mw_nel {k n : Nat} (h : mw_ll k = some n) : k ≠ 1000300 := by
  have := mw_lt (mw_ll_at h)
  omega
theorem mw_net {k : Nat} {l : List Nat} (h : mw_sh[k]? = some (.inr (.inr (.inr l)))) : k ≠ 1000300 := by
  have := mw_lt h
  omega
end MWH

theorem mw_k_bipush_m128 : (Int8.ofInt (-128)).toInt32 = (-128) := by decide
theorem mw_k_bipush_m28 : (Int8.ofInt (-28)).toInt32 = (-28) := by decide
theorem mw_k_bipush_m27 : (Int8.ofInt (-27)).toInt32 = (-27) := by decide
theorem mw_k_bipush_m26 : (Int8.ofInt (-26)).toInt32 = (-26) := by decide
theorem mw_k_bipush_m25 : (Int8.ofInt (-25)).toInt32 = (-25) := by decide
theorem mw_k_bipush_m24 : (Int8.ofInt (-24)).toInt32 = (-24) := by decide
theorem mw_k_bipush_m23 : (Int8.ofInt (-23)).toInt32 = (-23) := by decide
theorem mw_k_bipush_m22 : (Int8.ofInt (-22)).toInt32 = (-22) := by decide
theorem mw_k_bipush_m21 : (Int8.ofInt (-21)).toInt32 = (-21) := by decide
theorem mw_k_bipush_m20 : (Int8.ofInt (-20)).toInt32 = (-20) := by decide
theorem mw_k_bipush_m15 : (Int8.ofInt (-15)).toInt32 = (-15) := by decide
theorem mw_k_bipush_m14 : (Int8.ofInt (-14)).toInt32 = (-14) := by decide
theorem mw_k_bipush_m13 : (Int8.ofInt (-13)).toInt32 = (-13) := by decide
theorem mw_k_bipush_m12 : (Int8.ofInt (-12)).toInt32 = (-12) := by decide
theorem mw_k_bipush_m11 : (Int8.ofInt (-11)).toInt32 = (-11) := by decide
theorem mw_k_bipush_m10 : (Int8.ofInt (-10)).toInt32 = (-10) := by decide
theorem mw_k_bipush_m9 : (Int8.ofInt (-9)).toInt32 = (-9) := by decide
theorem mw_k_bipush_m8 : (Int8.ofInt (-8)).toInt32 = (-8) := by decide
theorem mw_k_bipush_m7 : (Int8.ofInt (-7)).toInt32 = (-7) := by decide
theorem mw_k_bipush_m6 : (Int8.ofInt (-6)).toInt32 = (-6) := by decide
theorem mw_k_bipush_6 : (Int8.ofInt (6)).toInt32 = nI 6 := by decide
theorem mw_k_bipush_7 : (Int8.ofInt (7)).toInt32 = nI 7 := by decide
theorem mw_k_bipush_8 : (Int8.ofInt (8)).toInt32 = nI 8 := by decide
theorem mw_k_bipush_9 : (Int8.ofInt (9)).toInt32 = nI 9 := by decide
theorem mw_k_bipush_10 : (Int8.ofInt (10)).toInt32 = nI 10 := by decide
theorem mw_k_bipush_11 : (Int8.ofInt (11)).toInt32 = nI 11 := by decide
theorem mw_k_bipush_12 : (Int8.ofInt (12)).toInt32 = nI 12 := by decide
theorem mw_k_bipush_15 : (Int8.ofInt (15)).toInt32 = nI 15 := by decide
theorem mw_k_bipush_16 : (Int8.ofInt (16)).toInt32 = nI 16 := by decide
theorem mw_k_bipush_20 : (Int8.ofInt (20)).toInt32 = nI 20 := by decide
theorem mw_k_bipush_24 : (Int8.ofInt (24)).toInt32 = nI 24 := by decide
theorem mw_k_bipush_28 : (Int8.ofInt (28)).toInt32 = nI 28 := by decide
theorem mw_k_bipush_30 : (Int8.ofInt (30)).toInt32 = nI 30 := by decide
theorem mw_k_bipush_32 : (Int8.ofInt (32)).toInt32 = nI 32 := by decide
theorem mw_k_bipush_40 : (Int8.ofInt (40)).toInt32 = nI 40 := by decide
theorem mw_k_bipush_41 : (Int8.ofInt (41)).toInt32 = nI 41 := by decide
theorem mw_k_bipush_42 : (Int8.ofInt (42)).toInt32 = nI 42 := by decide
theorem mw_k_bipush_43 : (Int8.ofInt (43)).toInt32 = nI 43 := by decide
theorem mw_k_bipush_45 : (Int8.ofInt (45)).toInt32 = nI 45 := by decide
theorem mw_k_bipush_47 : (Int8.ofInt (47)).toInt32 = nI 47 := by decide
theorem mw_k_bipush_48 : (Int8.ofInt (48)).toInt32 = nI 48 := by decide
theorem mw_k_bipush_52 : (Int8.ofInt (52)).toInt32 = nI 52 := by decide
theorem mw_k_bipush_53 : (Int8.ofInt (53)).toInt32 = nI 53 := by decide
theorem mw_k_bipush_54 : (Int8.ofInt (54)).toInt32 = nI 54 := by decide
theorem mw_k_bipush_55 : (Int8.ofInt (55)).toInt32 = nI 55 := by decide
theorem mw_k_bipush_56 : (Int8.ofInt (56)).toInt32 = nI 56 := by decide
theorem mw_k_bipush_57 : (Int8.ofInt (57)).toInt32 = nI 57 := by decide
theorem mw_k_bipush_59 : (Int8.ofInt (59)).toInt32 = nI 59 := by decide
theorem mw_k_bipush_60 : (Int8.ofInt (60)).toInt32 = nI 60 := by decide
theorem mw_k_bipush_61 : (Int8.ofInt (61)).toInt32 = nI 61 := by decide
theorem mw_k_bipush_63 : (Int8.ofInt (63)).toInt32 = nI 63 := by decide
theorem mw_k_bipush_64 : (Int8.ofInt (64)).toInt32 = nI 64 := by decide
theorem mw_k_bipush_80 : (Int8.ofInt (80)).toInt32 = nI 80 := by decide
theorem mw_k_bipush_97 : (Int8.ofInt (97)).toInt32 = nI 97 := by decide
theorem mw_k_bipush_99 : (Int8.ofInt (99)).toInt32 = nI 99 := by decide
theorem mw_k_bipush_122 : (Int8.ofInt (122)).toInt32 = nI 122 := by decide
theorem mw_k_bipush_127 : (Int8.ofInt (127)).toInt32 = nI 127 := by decide
theorem mw_k_iconst_m8 : Int32.ofInt (-8) = (-8) := by decide
theorem mw_k_iconst_m1 : Int32.ofInt (-1) = (-1) := by decide
theorem mw_k_iconst_0 : Int32.ofInt (0) = nI 0 := by decide
theorem mw_k_iconst_1 : Int32.ofInt (1) = nI 1 := by decide
theorem mw_k_iconst_2 : Int32.ofInt (2) = nI 2 := by decide
theorem mw_k_iconst_3 : Int32.ofInt (3) = nI 3 := by decide
theorem mw_k_iconst_4 : Int32.ofInt (4) = nI 4 := by decide
theorem mw_k_iconst_5 : Int32.ofInt (5) = nI 5 := by decide
theorem mw_k_iconst_16 : Int32.ofInt (16) = nI 16 := by decide
theorem mw_k_sipush_128 : (Int16.ofInt (128)).toInt32 = nI 128 := by decide
theorem mw_k_sipush_200 : (Int16.ofInt (200)).toInt32 = nI 200 := by decide
theorem mw_k_sipush_205 : (Int16.ofInt (205)).toInt32 = nI 205 := by decide
theorem mw_k_sipush_206 : (Int16.ofInt (206)).toInt32 = nI 206 := by decide
theorem mw_k_sipush_207 : (Int16.ofInt (207)).toInt32 = nI 207 := by decide
theorem mw_k_sipush_208 : (Int16.ofInt (208)).toInt32 = nI 208 := by decide
theorem mw_k_sipush_210 : (Int16.ofInt (210)).toInt32 = nI 210 := by decide
theorem mw_k_sipush_255 : (Int16.ofInt (255)).toInt32 = nI 255 := by decide
theorem mw_k_sipush_700 : (Int16.ofInt (700)).toInt32 = nI 700 := by decide
theorem mw_k_sipush_999 : (Int16.ofInt (999)).toInt32 = nI 999 := by decide
theorem mw_k_sipush_1023 : (Int16.ofInt (1023)).toInt32 = nI 1023 := by decide
theorem mw_k_sipush_2048 : (Int16.ofInt (2048)).toInt32 = nI 2048 := by decide
theorem mw_k_sipush_2560 : (Int16.ofInt (2560)).toInt32 = nI 2560 := by decide
theorem mw_k_sipush_9999 : (Int16.ofInt (9999)).toInt32 = nI 9999 := by decide
theorem mw_k_sipush_12345 : (Int16.ofInt (12345)).toInt32 = nI 12345 := by decide
theorem mw_k_sipush_32767 : (Int16.ofInt (32767)).toInt32 = nI 32767 := by decide
theorem mw_p0_12 : mj_pool 0 12 = some (0, 0, 0) := by decide +kernel
theorem mw_p0_18 : mj_pool 0 18 = some (0, 0, 1) := by decide +kernel
theorem mw_p0_22 : mj_pool 0 22 = some (0, 0, 2) := by decide +kernel
theorem mw_p0_26 : mj_pool 0 26 = some (0, 0, 3) := by decide +kernel
theorem mw_p0_29 : mj_pool 0 29 = some (0, 0, 4) := by decide +kernel
theorem mw_p0_32 : mj_pool 0 32 = some (0, 0, 5) := by decide +kernel
theorem mw_p0_35 : mj_pool 0 35 = some (0, 0, 6) := by decide +kernel
theorem mw_p0_38 : mj_pool 0 38 = some (0, 0, 7) := by decide +kernel
theorem mw_p0_41 : mj_pool 0 41 = some (0, 0, 8) := by decide +kernel
theorem mw_p0_44 : mj_pool 0 44 = some (2, 47, 1) := by decide +kernel
theorem mw_p0_48 : mj_pool 0 48 = some (4, 0, 0) := by decide +kernel
theorem mw_p0_54 : mj_pool 0 54 = some (2, 35, 1) := by decide +kernel
theorem mw_p0_58 : mj_pool 0 58 = some (2, 46, 1) := by decide +kernel
theorem mw_p0_61 : mj_pool 0 61 = some (15, 1, 0) := by decide +kernel
theorem mw_p0_67 : mj_pool 0 67 = some (2, 37, 1) := by decide +kernel
theorem mw_p1_9 : mj_pool 1 9 = some (0, 1, 0) := by decide +kernel
theorem mw_p1_15 : mj_pool 1 15 = some (0, 1, 1) := by decide +kernel
theorem mw_p1_18 : mj_pool 1 18 = some (0, 1, 2) := by decide +kernel
theorem mw_p1_22 : mj_pool 1 22 = some (2, 49, 1) := by decide +kernel
theorem mw_p1_27 : mj_pool 1 27 = some (2, 40, 1) := by decide +kernel
theorem mw_p1_30 : mj_pool 1 30 = some (13, 149, 0) := by decide +kernel
theorem mw_p1_34 : mj_pool 1 34 = some (2, 17, 1) := by decide +kernel
theorem mw_p1_37 : mj_pool 1 37 = some (2, 348, 0) := by decide +kernel
theorem mw_p1_42 : mj_pool 1 42 = some (2, 21, 1) := by decide +kernel
theorem mw_p1_46 : mj_pool 1 46 = some (2, 23, 1) := by decide +kernel
theorem mw_p1_49 : mj_pool 1 49 = some (2, 22, 1) := by decide +kernel
theorem mw_p1_52 : mj_pool 1 52 = some (15, 0, 0) := by decide +kernel
theorem mw_p1_58 : mj_pool 1 58 = some (2, 26, 1) := by decide +kernel
theorem mw_p1_61 : mj_pool 1 61 = some (12, 0, 0) := by decide +kernel
theorem mw_p1_64 : mj_pool 1 64 = some (12, 0, 1) := by decide +kernel
theorem mw_p2_7 : mj_pool 2 7 = some (0, 2, 0) := by decide +kernel
theorem mw_p2_13 : mj_pool 2 13 = some (5, 1103515245, 0) := by decide +kernel
theorem mw_p2_14 : mj_pool 2 14 = some (2, 30, 1) := by decide +kernel
theorem mw_p2_18 : mj_pool 2 18 = some (2, 61, 1) := by decide +kernel
theorem mw_p2_24 : mj_pool 2 24 = some (2, 31, 1) := by decide +kernel
theorem mw_p2_28 : mj_pool 2 28 = some (2, 112, 1) := by decide +kernel
theorem mw_p2_33 : mj_pool 2 33 = some (2, 59, 1) := by decide +kernel
theorem mw_p2_37 : mj_pool 2 37 = some (2, 54, 1) := by decide +kernel
theorem mw_p2_41 : mj_pool 2 41 = some (2, 32, 1) := by decide +kernel
theorem mw_p2_45 : mj_pool 2 45 = some (2, 63, 1) := by decide +kernel
theorem mw_p2_49 : mj_pool 2 49 = some (2, 70, 1) := by decide +kernel
theorem mw_p2_53 : mj_pool 2 53 = some (2, 71, 1) := by decide +kernel
theorem mw_p2_56 : mj_pool 2 56 = some (13, 153, 0) := by decide +kernel
theorem mw_p2_62 : mj_pool 2 62 = some (2, 57, 1) := by decide +kernel
theorem mw_p3_11 : mj_pool 3 11 = some (0, 3, 0) := by decide +kernel
theorem mw_p3_15 : mj_pool 3 15 = some (2, 350, 0) := by decide +kernel
theorem mw_p3_21 : mj_pool 3 21 = some (4, 0, 0) := by decide +kernel
theorem mw_p3_27 : mj_pool 3 27 = some (2, 39, 0) := by decide +kernel
theorem mw_p3_31 : mj_pool 3 31 = some (13, 149, 0) := by decide +kernel
theorem mw_p3_35 : mj_pool 3 35 = some (2, 37, 1) := by decide +kernel
theorem mw_p3_39 : mj_pool 3 39 = some (12, 0, 0) := by decide +kernel
theorem mw_p3_42 : mj_pool 3 42 = some (12, 0, 1) := by decide +kernel
theorem mw_p3_45 : mj_pool 3 45 = some (2, 41, 1) := by decide +kernel
theorem mw_p3_48 : mj_pool 3 48 = some (13, 153, 0) := by decide +kernel
theorem mw_p3_52 : mj_pool 3 52 = some (2, 36, 1) := by decide +kernel
theorem mw_p3_55 : mj_pool 3 55 = some (2, 52, 1) := by decide +kernel
theorem mw_p3_58 : mj_pool 3 58 = some (2, 53, 1) := by decide +kernel
theorem mw_p3_61 : mj_pool 3 61 = some (2, 51, 1) := by decide +kernel
theorem mw_p3_65 : mj_pool 3 65 = some (2, 348, 0) := by decide +kernel
theorem mw_p3_70 : mj_pool 3 70 = some (2, 64, 1) := by decide +kernel
theorem mw_p3_73 : mj_pool 3 73 = some (2, 59, 1) := by decide +kernel
theorem mw_p3_76 : mj_pool 3 76 = some (2, 55, 1) := by decide +kernel
theorem mw_p3_79 : mj_pool 3 79 = some (2, 65, 1) := by decide +kernel
theorem mw_p3_83 : mj_pool 3 83 = some (2, 42, 1) := by decide +kernel
theorem mw_p3_87 : mj_pool 3 87 = some (2, 56, 1) := by decide +kernel
theorem mw_p3_90 : mj_pool 3 90 = some (15, 0, 0) := by decide +kernel
theorem mw_p3_95 : mj_pool 3 95 = some (2, 43, 1) := by decide +kernel
theorem mw_p3_98 : mj_pool 3 98 = some (2, 57, 1) := by decide +kernel
theorem mw_p3_102 : mj_pool 3 102 = some (2, 69, 1) := by decide +kernel
theorem mw_p3_105 : mj_pool 3 105 = some (2, 76, 1) := by decide +kernel
theorem mw_p3_108 : mj_pool 3 108 = some (5, 2147483647, 0) := by decide +kernel
theorem mw_p3_109 : mj_pool 3 109 = some (2, 63, 1) := by decide +kernel
theorem mw_p4_12 : mj_pool 4 12 = some (0, 4, 0) := by decide +kernel
theorem mw_p4_18 : mj_pool 4 18 = some (0, 4, 1) := by decide +kernel
theorem mw_p4_22 : mj_pool 4 22 = some (0, 4, 2) := by decide +kernel
theorem mw_p4_26 : mj_pool 4 26 = some (2, 1, 1) := by decide +kernel
theorem mw_p4_32 : mj_pool 4 32 = some (2, 59, 1) := by decide +kernel
theorem mw_p4_36 : mj_pool 4 36 = some (2, 38, 1) := by decide +kernel
theorem mw_p4_40 : mj_pool 4 40 = some (2, 79, 1) := by decide +kernel
theorem mw_p4_44 : mj_pool 4 44 = some (2, 80, 1) := by decide +kernel
theorem mw_p4_48 : mj_pool 4 48 = some (2, 12, 1) := by decide +kernel
theorem mw_p4_52 : mj_pool 4 52 = some (2, 112, 1) := by decide +kernel
theorem mw_p4_57 : mj_pool 4 57 = some (2, 13, 1) := by decide +kernel
theorem mw_p4_61 : mj_pool 4 61 = some (2, 47, 1) := by decide +kernel
theorem mw_p4_65 : mj_pool 4 65 = some (2, 77, 1) := by decide +kernel
theorem mw_p4_69 : mj_pool 4 69 = some (2, 351, 0) := by decide +kernel
theorem mw_p4_75 : mj_pool 4 75 = some (2, 85, 1) := by decide +kernel
theorem mw_p4_78 : mj_pool 4 78 = some (2, 37, 1) := by decide +kernel
theorem mw_p4_81 : mj_pool 4 81 = some (2, 349, 0) := by decide +kernel
theorem mw_p4_87 : mj_pool 4 87 = some (2, 36, 1) := by decide +kernel
theorem mw_p4_90 : mj_pool 4 90 = some (2, 87, 1) := by decide +kernel
theorem mw_p5_12 : mj_pool 5 12 = some (0, 5, 0) := by decide +kernel
theorem mw_p5_21 : mj_pool 5 21 = some (0, 5, 1) := by decide +kernel
theorem mw_p5_28 : mj_pool 5 28 = some (0, 5, 2) := by decide +kernel
theorem mw_p5_32 : mj_pool 5 32 = some (0, 5, 3) := by decide +kernel
theorem mw_p5_36 : mj_pool 5 36 = some (0, 5, 4) := by decide +kernel
theorem mw_p5_39 : mj_pool 5 39 = some (2, 60, 1) := by decide +kernel
theorem mw_p5_42 : mj_pool 5 42 = some (2, 121, 1) := by decide +kernel
theorem mw_p5_43 : mj_pool 5 43 = some (2, 130, 1) := by decide +kernel
theorem mw_p5_47 : mj_pool 5 47 = some (2, 135, 1) := by decide +kernel
theorem mw_p5_51 : mj_pool 5 51 = some (2, 90, 1) := by decide +kernel
theorem mw_p5_55 : mj_pool 5 55 = some (2, 106, 1) := by decide +kernel
theorem mw_p5_59 : mj_pool 5 59 = some (2, 136, 1) := by decide +kernel
theorem mw_p5_62 : mj_pool 5 62 = some (2, 92, 1) := by decide +kernel
theorem mw_p5_65 : mj_pool 5 65 = some (2, 131, 1) := by decide +kernel
theorem mw_p5_68 : mj_pool 5 68 = some (2, 91, 1) := by decide +kernel
theorem mw_p5_72 : mj_pool 5 72 = some (2, 94, 1) := by decide +kernel
theorem mw_p5_75 : mj_pool 5 75 = some (2, 96, 1) := by decide +kernel
theorem mw_p5_78 : mj_pool 5 78 = some (2, 97, 1) := by decide +kernel
theorem mw_p5_81 : mj_pool 5 81 = some (2, 105, 1) := by decide +kernel
theorem mw_p5_84 : mj_pool 5 84 = some (2, 137, 1) := by decide +kernel
theorem mw_p5_87 : mj_pool 5 87 = some (2, 138, 1) := by decide +kernel
theorem mw_p5_90 : mj_pool 5 90 = some (2, 61, 1) := by decide +kernel
theorem mw_p5_93 : mj_pool 5 93 = some (2, 93, 1) := by decide +kernel
theorem mw_p5_97 : mj_pool 5 97 = some (2, 62, 1) := by decide +kernel
theorem mw_p5_101 : mj_pool 5 101 = some (2, 95, 1) := by decide +kernel
theorem mw_p5_104 : mj_pool 5 104 = some (2, 55, 1) := by decide +kernel
theorem mw_p5_108 : mj_pool 5 108 = some (2, 63, 1) := by decide +kernel
theorem mw_p5_112 : mj_pool 5 112 = some (2, 65, 1) := by decide +kernel
theorem mw_p5_116 : mj_pool 5 116 = some (13, 153, 0) := by decide +kernel
theorem mw_p5_119 : mj_pool 5 119 = some (2, 36, 1) := by decide +kernel
theorem mw_p5_122 : mj_pool 5 122 = some (2, 57, 1) := by decide +kernel
theorem mw_p5_126 : mj_pool 5 126 = some (2, 116, 1) := by decide +kernel
theorem mw_p5_129 : mj_pool 5 129 = some (2, 122, 1) := by decide +kernel
theorem mw_p5_132 : mj_pool 5 132 = some (2, 98, 1) := by decide +kernel
theorem mw_p5_135 : mj_pool 5 135 = some (2, 124, 1) := by decide +kernel
theorem mw_p5_138 : mj_pool 5 138 = some (2, 120, 1) := by decide +kernel
theorem mw_p5_141 : mj_pool 5 141 = some (2, 125, 1) := by decide +kernel
theorem mw_p5_144 : mj_pool 5 144 = some (2, 126, 1) := by decide +kernel
theorem mw_p5_147 : mj_pool 5 147 = some (2, 139, 1) := by decide +kernel
theorem mw_p5_150 : mj_pool 5 150 = some (2, 99, 1) := by decide +kernel
theorem mw_p5_153 : mj_pool 5 153 = some (2, 123, 1) := by decide +kernel
theorem mw_p5_156 : mj_pool 5 156 = some (2, 100, 1) := by decide +kernel
theorem mw_p5_159 : mj_pool 5 159 = some (2, 101, 1) := by decide +kernel
theorem mw_p5_162 : mj_pool 5 162 = some (2, 102, 1) := by decide +kernel
theorem mw_p5_165 : mj_pool 5 165 = some (2, 103, 1) := by decide +kernel
theorem mw_p5_168 : mj_pool 5 168 = some (2, 104, 1) := by decide +kernel
theorem mw_p5_171 : mj_pool 5 171 = some (2, 140, 1) := by decide +kernel
theorem mw_p6_9 : mj_pool 6 9 = some (0, 6, 0) := by decide +kernel
theorem mw_p6_15 : mj_pool 6 15 = some (0, 6, 1) := by decide +kernel
theorem mw_p6_19 : mj_pool 6 19 = some (0, 6, 2) := by decide +kernel
theorem mw_p6_22 : mj_pool 6 22 = some (0, 6, 3) := by decide +kernel
theorem mw_p6_25 : mj_pool 6 25 = some (0, 6, 4) := by decide +kernel
theorem mw_p6_28 : mj_pool 6 28 = some (0, 6, 5) := by decide +kernel
theorem mw_p6_31 : mj_pool 6 31 = some (0, 6, 6) := by decide +kernel
theorem mw_p6_34 : mj_pool 6 34 = some (0, 6, 7) := by decide +kernel
theorem mw_p6_37 : mj_pool 6 37 = some (4, 0, 0) := by decide +kernel
theorem mw_p6_43 : mj_pool 6 43 = some (2, 36, 1) := by decide +kernel
theorem mw_p6_49 : mj_pool 6 49 = some (2, 113, 1) := by decide +kernel
theorem mw_p6_53 : mj_pool 6 53 = some (2, 45, 1) := by decide +kernel
theorem mw_p6_56 : mj_pool 6 56 = some (2, 114, 1) := by decide +kernel
theorem mw_p6_59 : mj_pool 6 59 = some (2, 115, 1) := by decide +kernel
theorem mw_p6_63 : mj_pool 6 63 = some (15, 0, 0) := by decide +kernel
theorem mw_p6_69 : mj_pool 6 69 = some (2, 42, 1) := by decide +kernel
theorem mw_p6_73 : mj_pool 6 73 = some (2, 43, 1) := by decide +kernel
theorem mw_p6_77 : mj_pool 6 77 = some (2, 119, 1) := by decide +kernel
theorem mw_p6_81 : mj_pool 6 81 = some (2, 44, 1) := by decide +kernel
theorem mw_p6_84 : mj_pool 6 84 = some (2, 116, 1) := by decide +kernel
theorem mw_p6_87 : mj_pool 6 87 = some (2, 117, 1) := by decide +kernel
theorem mw_p6_90 : mj_pool 6 90 = some (15, 1, 0) := by decide +kernel
theorem mw_p6_93 : mj_pool 6 93 = some (2, 120, 1) := by decide +kernel
theorem mw_p6_96 : mj_pool 6 96 = some (12, 0, 0) := by decide +kernel
theorem mw_p6_99 : mj_pool 6 99 = some (12, 0, 1) := by decide +kernel
theorem mw_p6_102 : mj_pool 6 102 = some (2, 37, 1) := by decide +kernel
theorem mw_p6_106 : mj_pool 6 106 = some (2, 38, 1) := by decide +kernel
theorem mw_p6_109 : mj_pool 6 109 = some (15, 2, 0) := by decide +kernel
theorem mw_p6_112 : mj_pool 6 112 = some (2, 40, 1) := by decide +kernel
theorem mw_p6_115 : mj_pool 6 115 = some (2, 348, 0) := by decide +kernel
theorem mw_p6_120 : mj_pool 6 120 = some (2, 41, 1) := by decide +kernel
theorem mw_p6_123 : mj_pool 6 123 = some (2, 34, 1) := by decide +kernel
theorem mw_p6_126 : mj_pool 6 126 = some (2, 118, 0) := by decide +kernel
theorem mw_p7_9 : mj_pool 7 9 = some (0, 7, 0) := by decide +kernel
theorem mw_p7_15 : mj_pool 7 15 = some (0, 7, 1) := by decide +kernel
theorem mw_p7_19 : mj_pool 7 19 = some (0, 7, 2) := by decide +kernel
theorem mw_p7_22 : mj_pool 7 22 = some (0, 7, 3) := by decide +kernel
theorem mw_p7_25 : mj_pool 7 25 = some (0, 7, 4) := by decide +kernel
theorem mw_p7_28 : mj_pool 7 28 = some (0, 7, 5) := by decide +kernel
theorem mw_p7_31 : mj_pool 7 31 = some (15, 0, 0) := by decide +kernel
theorem mw_p7_37 : mj_pool 7 37 = some (15, 1, 0) := by decide +kernel
theorem mw_p7_40 : mj_pool 7 40 = some (4, 0, 0) := by decide +kernel
theorem mw_p7_49 : mj_pool 7 49 = some (2, 132, 1) := by decide +kernel
theorem mw_p7_52 : mj_pool 7 52 = some (2, 133, 1) := by decide +kernel
theorem mw_p7_55 : mj_pool 7 55 = some (2, 134, 1) := by decide +kernel
theorem mw_p7_58 : mj_pool 7 58 = some (7, 2, 0) := by decide +kernel
theorem mw_p7_60 : mj_pool 7 60 = some (2, 342, 1) := by decide +kernel
theorem mw_p7_66 : mj_pool 7 66 = some (7, 1, 0) := by decide +kernel
theorem mw_p7_68 : mj_pool 7 68 = some (2, 337, 1) := by decide +kernel
theorem mw_p7_71 : mj_pool 7 71 = some (2, 339, 1) := by decide +kernel
theorem mw_p8_9 : mj_pool 8 9 = some (0, 8, 0) := by decide +kernel
theorem mw_p8_16 : mj_pool 8 16 = some (0, 8, 1) := by decide +kernel
theorem mw_p8_20 : mj_pool 8 20 = some (0, 8, 2) := by decide +kernel
theorem mw_p8_26 : mj_pool 8 26 = some (0, 8, 3) := by decide +kernel
theorem mw_p8_33 : mj_pool 8 33 = some (0, 8, 4) := by decide +kernel
theorem mw_p8_40 : mj_pool 8 40 = some (0, 8, 5) := by decide +kernel
theorem mw_p8_47 : mj_pool 8 47 = some (0, 8, 6) := by decide +kernel
theorem mw_p8_54 : mj_pool 8 54 = some (0, 8, 7) := by decide +kernel
theorem mw_p8_61 : mj_pool 8 61 = some (0, 8, 8) := by decide +kernel
theorem mw_p8_65 : mj_pool 8 65 = some (0, 8, 9) := by decide +kernel
theorem mw_p8_69 : mj_pool 8 69 = some (0, 8, 10) := by decide +kernel
theorem mw_p8_72 : mj_pool 8 72 = some (0, 8, 11) := by decide +kernel
theorem mw_p8_76 : mj_pool 8 76 = some (2, 143, 1) := by decide +kernel
theorem mw_p8_80 : mj_pool 8 80 = some (9, 1, 0) := by decide +kernel
theorem mw_p8_87 : mj_pool 8 87 = some (2, 89, 1) := by decide +kernel
theorem mw_p8_91 : mj_pool 8 91 = some (2, 107, 1) := by decide +kernel
theorem mw_p8_95 : mj_pool 8 95 = some (2, 2, 1) := by decide +kernel
theorem mw_p8_99 : mj_pool 8 99 = some (2, 108, 1) := by decide +kernel
theorem mw_p8_102 : mj_pool 8 102 = some (2, 109, 1) := by decide +kernel
theorem mw_p8_106 : mj_pool 8 106 = some (2, 7, 1) := by decide +kernel
theorem mw_p8_110 : mj_pool 8 110 = some (2, 110, 1) := by decide +kernel
theorem mw_p8_113 : mj_pool 8 113 = some (2, 127, 1) := by decide +kernel
theorem mw_p8_117 : mj_pool 8 117 = some (2, 1, 1) := by decide +kernel
theorem mw_p8_118 : mj_pool 8 118 = some (2, 61, 1) := by decide +kernel
theorem mw_p8_121 : mj_pool 8 121 = some (2, 49, 1) := by decide +kernel
theorem mw_p8_124 : mj_pool 8 124 = some (2, 34, 1) := by decide +kernel
theorem mw_p8_127 : mj_pool 8 127 = some (2, 48, 1) := by decide +kernel
theorem mw_p8_130 : mj_pool 8 130 = some (2, 66, 1) := by decide +kernel
theorem mw_p8_133 : mj_pool 8 133 = some (2, 51, 1) := by decide +kernel
theorem mw_p8_136 : mj_pool 8 136 = some (2, 15, 1) := by decide +kernel
theorem mw_p8_139 : mj_pool 8 139 = some (2, 20, 1) := by decide +kernel
theorem mw_p8_142 : mj_pool 8 142 = some (2, 24, 1) := by decide +kernel
theorem mw_p8_145 : mj_pool 8 145 = some (2, 8, 1) := by decide +kernel
theorem mw_p8_148 : mj_pool 8 148 = some (2, 9, 1) := by decide +kernel
theorem mw_p8_151 : mj_pool 8 151 = some (2, 10, 1) := by decide +kernel
theorem mw_p8_154 : mj_pool 8 154 = some (9, 0, 0) := by decide +kernel
theorem mw_p8_159 : mj_pool 8 159 = some (2, 166, 1) := by decide +kernel
theorem mw_p8_162 : mj_pool 8 162 = some (2, 38, 1) := by decide +kernel
theorem mw_p8_165 : mj_pool 8 165 = some (2, 67, 1) := by decide +kernel
theorem mw_p8_168 : mj_pool 8 168 = some (2, 55, 1) := by decide +kernel
theorem mw_p8_171 : mj_pool 8 171 = some (2, 59, 1) := by decide +kernel
theorem mw_p8_175 : mj_pool 8 175 = some (2, 68, 1) := by decide +kernel
theorem mw_p8_178 : mj_pool 8 178 = some (2, 40, 1) := by decide +kernel
theorem mw_p8_181 : mj_pool 8 181 = some (2, 69, 1) := by decide +kernel
theorem mw_p8_184 : mj_pool 8 184 = some (2, 168, 1) := by decide +kernel
theorem mw_p8_188 : mj_pool 8 188 = some (2, 169, 0) := by decide +kernel
theorem mw_p8_191 : mj_pool 8 191 = some (2, 153, 0) := by decide +kernel
theorem mw_p8_195 : mj_pool 8 195 = some (2, 36, 1) := by decide +kernel
theorem mw_p8_198 : mj_pool 8 198 = some (2, 37, 1) := by decide +kernel
theorem mw_p8_201 : mj_pool 8 201 = some (2, 52, 1) := by decide +kernel
theorem mw_p8_204 : mj_pool 8 204 = some (2, 41, 1) := by decide +kernel
theorem mw_p8_207 : mj_pool 8 207 = some (2, 58, 1) := by decide +kernel
theorem mw_p8_210 : mj_pool 8 210 = some (2, 128, 1) := by decide +kernel
theorem mw_p8_214 : mj_pool 8 214 = some (2, 3, 1) := by decide +kernel
theorem mw_p8_217 : mj_pool 8 217 = some (2, 112, 1) := by decide +kernel
theorem mw_p8_221 : mj_pool 8 221 = some (2, 54, 1) := by decide +kernel
theorem mw_p8_224 : mj_pool 8 224 = some (2, 63, 1) := by decide +kernel
theorem mw_p8_228 : mj_pool 8 228 = some (2, 70, 1) := by decide +kernel
theorem mw_p8_231 : mj_pool 8 231 = some (2, 42, 1) := by decide +kernel
theorem mw_p8_234 : mj_pool 8 234 = some (2, 71, 1) := by decide +kernel
theorem mw_p8_237 : mj_pool 8 237 = some (2, 57, 1) := by decide +kernel
theorem mw_p8_241 : mj_pool 8 241 = some (2, 4, 1) := by decide +kernel
theorem mw_p8_244 : mj_pool 8 244 = some (2, 175, 0) := by decide +kernel
theorem mw_p8_247 : mj_pool 8 247 = some (2, 176, 1) := by decide +kernel
theorem mw_p8_251 : mj_pool 8 251 = some (2, 47, 1) := by decide +kernel
theorem mw_p8_253 : mj_pool 8 253 = some (2, 72, 1) := by decide +kernel
theorem mw_p8_256 : mj_pool 8 256 = some (2, 179, 0) := by decide +kernel
theorem mw_p8_259 : mj_pool 8 259 = some (2, 73, 1) := by decide +kernel
theorem mw_p8_262 : mj_pool 8 262 = some (2, 348, 0) := by decide +kernel
theorem mw_p8_267 : mj_pool 8 267 = some (2, 16, 1) := by decide +kernel
theorem mw_p8_270 : mj_pool 8 270 = some (2, 25, 1) := by decide +kernel
theorem mw_p8_273 : mj_pool 8 273 = some (2, 50, 1) := by decide +kernel
theorem mw_p8_276 : mj_pool 8 276 = some (2, 152, 1) := by decide +kernel
theorem mw_p8_279 : mj_pool 8 279 = some (2, 149, 0) := by decide +kernel
theorem mw_p8_282 : mj_pool 8 282 = some (2, 27, 1) := by decide +kernel
theorem mw_p8_285 : mj_pool 8 285 = some (2, 74, 1) := by decide +kernel
theorem mw_p8_288 : mj_pool 8 288 = some (2, 75, 1) := by decide +kernel
theorem mw_p8_291 : mj_pool 8 291 = some (2, 18, 1) := by decide +kernel
theorem mw_p8_294 : mj_pool 8 294 = some (2, 19, 1) := by decide +kernel
theorem mw_p8_299 : mj_pool 8 299 = some (2, 11, 1) := by decide +kernel
theorem mw_p8_303 : mj_pool 8 303 = some (2, 79, 1) := by decide +kernel
theorem mw_p8_307 : mj_pool 8 307 = some (2, 81, 1) := by decide +kernel
theorem mw_p8_311 : mj_pool 8 311 = some (2, 82, 1) := by decide +kernel
theorem mw_p8_314 : mj_pool 8 314 = some (2, 83, 1) := by decide +kernel
theorem mw_p8_317 : mj_pool 8 317 = some (2, 84, 1) := by decide +kernel
theorem mw_p8_321 : mj_pool 8 321 = some (2, 86, 1) := by decide +kernel
theorem mw_p8_325 : mj_pool 8 325 = some (2, 87, 1) := by decide +kernel
theorem mw_p8_328 : mj_pool 8 328 = some (2, 5, 1) := by decide +kernel
theorem mw_p8_333 : mj_pool 8 333 = some (2, 309, 0) := by decide +kernel
theorem mw_p8_339 : mj_pool 8 339 = some (2, 29, 1) := by decide +kernel
theorem mw_p8_343 : mj_pool 8 343 = some (2, 6, 1) := by decide +kernel
theorem mw_p8_350 : mj_pool 8 350 = some (1, 0, 0) := by decide +kernel
theorem mw_p8_354 : mj_pool 8 354 = some (1, 0, 1) := by decide +kernel
theorem mw_p8_357 : mj_pool 8 357 = some (15, 0, 0) := by decide +kernel
theorem mw_p8_362 : mj_pool 8 362 = some (15, 1, 0) := by decide +kernel
theorem mw_p9_15 : mj_pool 9 15 = some (0, 9, 0) := by decide +kernel
theorem mw_p9_31 : mj_pool 9 31 = some (0, 9, 1) := by decide +kernel
theorem mw_p9_34 : mj_pool 9 34 = some (0, 9, 3) := by decide +kernel
theorem mw_p9_38 : mj_pool 9 38 = some (0, 9, 4) := by decide +kernel
theorem mw_p9_40 : mj_pool 9 40 = some (0, 9, 5) := by decide +kernel
theorem mw_p9_43 : mj_pool 9 43 = some (0, 9, 6) := by decide +kernel
theorem mw_p9_46 : mj_pool 9 46 = some (0, 9, 7) := by decide +kernel
theorem mw_p9_49 : mj_pool 9 49 = some (0, 9, 8) := by decide +kernel
theorem mw_p9_52 : mj_pool 9 52 = some (0, 9, 9) := by decide +kernel
theorem mw_p9_55 : mj_pool 9 55 = some (0, 9, 10) := by decide +kernel
theorem mw_p9_58 : mj_pool 9 58 = some (0, 9, 11) := by decide +kernel
theorem mw_p9_61 : mj_pool 9 61 = some (0, 9, 12) := by decide +kernel
theorem mw_p9_64 : mj_pool 9 64 = some (0, 9, 13) := by decide +kernel
theorem mw_p9_67 : mj_pool 9 67 = some (0, 9, 14) := by decide +kernel
theorem mw_p9_70 : mj_pool 9 70 = some (0, 9, 24) := by decide +kernel
theorem mw_p9_74 : mj_pool 9 74 = some (0, 9, 26) := by decide +kernel
theorem mw_p9_77 : mj_pool 9 77 = some (0, 9, 27) := by decide +kernel
theorem mw_p9_80 : mj_pool 9 80 = some (0, 9, 28) := by decide +kernel
theorem mw_p9_82 : mj_pool 9 82 = some (0, 9, 29) := by decide +kernel
theorem mw_p9_85 : mj_pool 9 85 = some (0, 9, 30) := by decide +kernel
theorem mw_p9_88 : mj_pool 9 88 = some (0, 9, 31) := by decide +kernel
theorem mw_p9_91 : mj_pool 9 91 = some (0, 9, 36) := by decide +kernel
theorem mw_p9_94 : mj_pool 9 94 = some (0, 9, 37) := by decide +kernel
theorem mw_p9_97 : mj_pool 9 97 = some (0, 9, 38) := by decide +kernel
theorem mw_p9_100 : mj_pool 9 100 = some (0, 9, 39) := by decide +kernel
theorem mw_p9_103 : mj_pool 9 103 = some (0, 9, 40) := by decide +kernel
theorem mw_p9_106 : mj_pool 9 106 = some (0, 9, 41) := by decide +kernel
theorem mw_p9_109 : mj_pool 9 109 = some (0, 9, 42) := by decide +kernel
theorem mw_p9_112 : mj_pool 9 112 = some (0, 9, 43) := by decide +kernel
theorem mw_p9_115 : mj_pool 9 115 = some (0, 9, 44) := by decide +kernel
theorem mw_p9_118 : mj_pool 9 118 = some (0, 9, 45) := by decide +kernel
theorem mw_p9_121 : mj_pool 9 121 = some (0, 9, 51) := by decide +kernel
theorem mw_p9_124 : mj_pool 9 124 = some (0, 9, 52) := by decide +kernel
theorem mw_p9_127 : mj_pool 9 127 = some (0, 9, 53) := by decide +kernel
theorem mw_p9_130 : mj_pool 9 130 = some (0, 9, 54) := by decide +kernel
theorem mw_p9_133 : mj_pool 9 133 = some (0, 9, 55) := by decide +kernel
theorem mw_p9_136 : mj_pool 9 136 = some (0, 9, 56) := by decide +kernel
theorem mw_p9_139 : mj_pool 9 139 = some (0, 9, 2) := by decide +kernel
theorem mw_p9_142 : mj_pool 9 142 = some (2, 240, 0) := by decide +kernel
theorem mw_p9_146 : mj_pool 9 146 = some (15, 0, 0) := by decide +kernel
theorem mw_p9_152 : mj_pool 9 152 = some (15, 1, 0) := by decide +kernel
theorem mw_p9_155 : mj_pool 9 155 = some (0, 9, 15) := by decide +kernel
theorem mw_p9_158 : mj_pool 9 158 = some (0, 9, 17) := by decide +kernel
theorem mw_p9_161 : mj_pool 9 161 = some (0, 9, 16) := by decide +kernel
theorem mw_p9_164 : mj_pool 9 164 = some (2, 199, 1) := by decide +kernel
theorem mw_p9_168 : mj_pool 9 168 = some (0, 9, 20) := by decide +kernel
theorem mw_p9_171 : mj_pool 9 171 = some (0, 9, 18) := by decide +kernel
theorem mw_p9_174 : mj_pool 9 174 = some (2, 200, 0) := by decide +kernel
theorem mw_p9_178 : mj_pool 9 178 = some (2, 201, 0) := by decide +kernel
theorem mw_p9_181 : mj_pool 9 181 = some (0, 9, 19) := by decide +kernel
theorem mw_p9_184 : mj_pool 9 184 = some (5, 100000, 0) := by decide +kernel
theorem mw_p9_185 : mj_pool 9 185 = some (2, 202, 0) := by decide +kernel
theorem mw_p9_188 : mj_pool 9 188 = some (0, 9, 21) := by decide +kernel
theorem mw_p9_191 : mj_pool 9 191 = some (0, 9, 22) := by decide +kernel
theorem mw_p9_194 : mj_pool 9 194 = some (0, 9, 23) := by decide +kernel
theorem mw_p9_197 : mj_pool 9 197 = some (2, 337, 1) := by decide +kernel
theorem mw_p9_201 : mj_pool 9 201 = some (2, 339, 1) := by decide +kernel
theorem mw_p9_205 : mj_pool 9 205 = some (2, 205, 1) := by decide +kernel
theorem mw_p9_209 : mj_pool 9 209 = some (2, 208, 1) := by decide +kernel
theorem mw_p9_212 : mj_pool 9 212 = some (2, 206, 1) := by decide +kernel
theorem mw_p9_216 : mj_pool 9 216 = some (2, 198, 1) := by decide +kernel
theorem mw_p9_219 : mj_pool 9 219 = some (2, 215, 1) := by decide +kernel
theorem mw_p9_222 : mj_pool 9 222 = some (0, 9, 25) := by decide +kernel
theorem mw_p9_226 : mj_pool 9 226 = some (2, 214, 1) := by decide +kernel
theorem mw_p9_229 : mj_pool 9 229 = some (2, 216, 1) := by decide +kernel
theorem mw_p9_232 : mj_pool 9 232 = some (2, 204, 1) := by decide +kernel
theorem mw_p9_236 : mj_pool 9 236 = some (2, 217, 1) := by decide +kernel
theorem mw_p9_239 : mj_pool 9 239 = some (2, 207, 1) := by decide +kernel
theorem mw_p9_242 : mj_pool 9 242 = some (2, 213, 1) := by decide +kernel
theorem mw_p9_245 : mj_pool 9 245 = some (2, 212, 1) := by decide +kernel
theorem mw_p9_248 : mj_pool 9 248 = some (7, 18, 0) := by decide +kernel
theorem mw_p9_250 : mj_pool 9 250 = some (2, 211, 1) := by decide +kernel
theorem mw_p9_253 : mj_pool 9 253 = some (2, 210, 1) := by decide +kernel
theorem mw_p9_256 : mj_pool 9 256 = some (7, 19, 0) := by decide +kernel
theorem mw_p9_258 : mj_pool 9 258 = some (2, 209, 1) := by decide +kernel
theorem mw_p9_261 : mj_pool 9 261 = some (7, 20, 0) := by decide +kernel
theorem mw_p9_263 : mj_pool 9 263 = some (2, 220, 1) := by decide +kernel
theorem mw_p9_266 : mj_pool 9 266 = some (2, 222, 0) := by decide +kernel
theorem mw_p9_269 : mj_pool 9 269 = some (7, 16, 0) := by decide +kernel
theorem mw_p9_271 : mj_pool 9 271 = some (7, 17, 0) := by decide +kernel
theorem mw_p9_272 : mj_pool 9 272 = some (2, 218, 1) := by decide +kernel
theorem mw_p9_275 : mj_pool 9 275 = some (7, 21, 0) := by decide +kernel
theorem mw_p9_277 : mj_pool 9 277 = some (2, 219, 1) := by decide +kernel
theorem mw_p9_280 : mj_pool 9 280 = some (7, 22, 0) := by decide +kernel
theorem mw_p9_282 : mj_pool 9 282 = some (2, 221, 1) := by decide +kernel
theorem mw_p9_285 : mj_pool 9 285 = some (2, 197, 1) := by decide +kernel
theorem mw_p9_288 : mj_pool 9 288 = some (2, 203, 1) := by decide +kernel
theorem mw_p9_291 : mj_pool 9 291 = some (2, 223, 1) := by decide +kernel
theorem mw_p9_294 : mj_pool 9 294 = some (2, 224, 0) := by decide +kernel
theorem mw_p9_298 : mj_pool 9 298 = some (0, 9, 32) := by decide +kernel
theorem mw_p9_300 : mj_pool 9 300 = some (0, 9, 33) := by decide +kernel
theorem mw_p9_303 : mj_pool 9 303 = some (0, 9, 34) := by decide +kernel
theorem mw_p9_306 : mj_pool 9 306 = some (0, 9, 35) := by decide +kernel
theorem mw_p9_309 : mj_pool 9 309 = some (0, 9, 48) := by decide +kernel
theorem mw_p9_312 : mj_pool 9 312 = some (2, 229, 1) := by decide +kernel
theorem mw_p9_316 : mj_pool 9 316 = some (2, 228, 1) := by decide +kernel
theorem mw_p9_319 : mj_pool 9 319 = some (2, 230, 0) := by decide +kernel
theorem mw_p9_322 : mj_pool 9 322 = some (2, 232, 1) := by decide +kernel
theorem mw_p9_325 : mj_pool 9 325 = some (2, 247, 0) := by decide +kernel
theorem mw_p9_329 : mj_pool 9 329 = some (15, 2, 0) := by decide +kernel
theorem mw_p9_332 : mj_pool 9 332 = some (2, 245, 1) := by decide +kernel
theorem mw_p9_336 : mj_pool 9 336 = some (2, 246, 1) := by decide +kernel
theorem mw_p9_340 : mj_pool 9 340 = some (2, 254, 1) := by decide +kernel
theorem mw_p9_343 : mj_pool 9 343 = some (2, 255, 1) := by decide +kernel
theorem mw_p9_346 : mj_pool 9 346 = some (2, 244, 1) := by decide +kernel
theorem mw_p9_349 : mj_pool 9 349 = some (2, 253, 1) := by decide +kernel
theorem mw_p9_352 : mj_pool 9 352 = some (2, 258, 1) := by decide +kernel
theorem mw_p9_356 : mj_pool 9 356 = some (2, 236, 0) := by decide +kernel
theorem mw_p9_359 : mj_pool 9 359 = some (2, 241, 1) := by decide +kernel
theorem mw_p9_362 : mj_pool 9 362 = some (2, 235, 1) := by decide +kernel
theorem mw_p9_365 : mj_pool 9 365 = some (2, 227, 1) := by decide +kernel
theorem mw_p9_368 : mj_pool 9 368 = some (2, 231, 1) := by decide +kernel
theorem mw_p9_371 : mj_pool 9 371 = some (2, 233, 1) := by decide +kernel
theorem mw_p9_374 : mj_pool 9 374 = some (2, 234, 1) := by decide +kernel
theorem mw_p9_377 : mj_pool 9 377 = some (2, 237, 1) := by decide +kernel
theorem mw_p9_380 : mj_pool 9 380 = some (2, 239, 1) := by decide +kernel
theorem mw_p9_383 : mj_pool 9 383 = some (6, 4, 0) := by decide +kernel
theorem mw_p9_385 : mj_pool 9 385 = some (2, 243, 1) := by decide +kernel
theorem mw_p9_388 : mj_pool 9 388 = some (2, 251, 1) := by decide +kernel
theorem mw_p9_392 : mj_pool 9 392 = some (6, 20, 0) := by decide +kernel
theorem mw_p9_394 : mj_pool 9 394 = some (2, 249, 1) := by decide +kernel
theorem mw_p9_397 : mj_pool 9 397 = some (2, 250, 1) := by decide +kernel
theorem mw_p9_400 : mj_pool 9 400 = some (2, 252, 1) := by decide +kernel
theorem mw_p9_403 : mj_pool 9 403 = some (2, 257, 1) := by decide +kernel
theorem mw_p9_406 : mj_pool 9 406 = some (2, 260, 1) := by decide +kernel
theorem mw_p9_409 : mj_pool 9 409 = some (2, 261, 1) := by decide +kernel
theorem mw_p9_412 : mj_pool 9 412 = some (2, 262, 1) := by decide +kernel
theorem mw_p9_415 : mj_pool 9 415 = some (2, 265, 1) := by decide +kernel
theorem mw_p9_418 : mj_pool 9 418 = some (6, 99, 0) := by decide +kernel
theorem mw_p9_420 : mj_pool 9 420 = some (6, 9, 0) := by decide +kernel
theorem mw_p9_422 : mj_pool 9 422 = some (2, 266, 1) := by decide +kernel
theorem mw_p9_426 : mj_pool 9 426 = some (2, 268, 1) := by decide +kernel
theorem mw_p9_429 : mj_pool 9 429 = some (6, 60, 0) := by decide +kernel
theorem mw_p9_431 : mj_pool 9 431 = some (6, 2, 0) := by decide +kernel
theorem mw_p9_433 : mj_pool 9 433 = some (2, 273, 1) := by decide +kernel
theorem mw_p9_436 : mj_pool 9 436 = some (2, 274, 1) := by decide +kernel
theorem mw_p9_439 : mj_pool 9 439 = some (2, 276, 1) := by decide +kernel
theorem mw_p9_442 : mj_pool 9 442 = some (0, 9, 46) := by decide +kernel
theorem mw_p9_445 : mj_pool 9 445 = some (2, 295, 1) := by decide +kernel
theorem mw_p9_449 : mj_pool 9 449 = some (2, 296, 1) := by decide +kernel
theorem mw_p9_452 : mj_pool 9 452 = some (2, 298, 1) := by decide +kernel
theorem mw_p9_454 : mj_pool 9 454 = some (2, 301, 1) := by decide +kernel
theorem mw_p9_457 : mj_pool 9 457 = some (2, 302, 1) := by decide +kernel
theorem mw_p9_461 : mj_pool 9 461 = some (0, 9, 47) := by decide +kernel
theorem mw_p9_464 : mj_pool 9 464 = some (5, 1103515245, 0) := by decide +kernel
theorem mw_p9_465 : mj_pool 9 465 = some (2, 305, 1) := by decide +kernel
theorem mw_p9_468 : mj_pool 9 468 = some (2, 304, 1) := by decide +kernel
theorem mw_p9_471 : mj_pool 9 471 = some (0, 9, 49) := by decide +kernel
theorem mw_p9_474 : mj_pool 9 474 = some (0, 9, 50) := by decide +kernel
theorem mw_p9_477 : mj_pool 9 477 = some (2, 307, 0) := by decide +kernel
theorem mw_p10_9 : mj_pool 10 9 = some (2, 310, 0) := by decide +kernel
theorem mw_p10_15 : mj_pool 10 15 = some (2, 311, 0) := by decide +kernel
theorem mw_p12_9 : mj_pool 12 9 = some (11, 0, 0) := by decide +kernel
theorem mw_p12_15 : mj_pool 12 15 = some (11, 0, 1) := by decide +kernel
theorem mw_p12_38 : mj_pool 12 38 = some (1, 1, 1) := by decide +kernel
theorem mw_p12_492 : mj_pool 12 492 = some (2, 340, 1) := by decide +kernel
theorem mw_p12_495 : mj_pool 12 495 = some (2, 344, 0) := by decide +kernel
theorem mw_p12_505 : mj_pool 12 505 = some (2, 337, 1) := by decide +kernel
theorem mw_p12_633 : mj_pool 12 633 = some (2, 343, 1) := by decide +kernel
theorem mw_p12_637 : mj_pool 12 637 = some (2, 345, 0) := by decide +kernel
theorem mw_p12_1053 : mj_pool 12 1053 = some (1, 0, 300) := by decide +kernel
theorem mw_p12_1059 : mj_pool 12 1059 = some (2, 352, 0) := by decide +kernel
theorem mw_p13_9 : mj_pool 13 9 = some (2, 341, 0) := by decide +kernel
theorem mw_p13_38 : mj_pool 13 38 = some (15, 0, 0) := by decide +kernel
theorem mw_p13_88 : mj_pool 13 88 = some (2, 346, 0) := by decide +kernel
theorem mw_p13_92 : mj_pool 13 92 = some (15, 1, 0) := by decide +kernel
theorem mw_p13_95 : mj_pool 13 95 = some (2, 347, 0) := by decide +kernel
theorem mw_p15_265 : mj_pool 15 265 = some (5, 1431655765, 0) := by decide +kernel
theorem mw_p15_266 : mj_pool 15 266 = some (5, 858993459, 0) := by decide +kernel
theorem mw_p15_267 : mj_pool 15 267 = some (5, 252645135, 0) := by decide +kernel
theorem mw_p16_314 : mj_pool 16 314 = some (6, 6148914691236517205, 0) := by decide +kernel
theorem mw_p16_316 : mj_pool 16 316 = some (6, 3689348814741910323, 0) := by decide +kernel
theorem mw_p16_318 : mj_pool 16 318 = some (6, 1085102592571150095, 0) := by decide +kernel
theorem mw_c_0 : mw_cl 0 = some 8 := by unfold mw_cl; rw [mw_sh_eq]; rfl
theorem mw_f_0_0 : mw_fd 0 0 = some (some 1) := by unfold mw_fd; rw [mw_sh_eq]; rfl
theorem mw_f_0_1 : mw_fd 0 1 = some (some 2) := by unfold mw_fd; rw [mw_sh_eq]; rfl
theorem mw_f_0_2 : mw_fd 0 2 = some (some 10) := by unfold mw_fd; rw [mw_sh_eq]; rfl
theorem mw_f_0_3 : mw_fd 0 3 = some (some 18) := by unfold mw_fd; rw [mw_sh_eq]; rfl
theorem mw_f_0_4 : mw_fd 0 4 = some (some 22) := by unfold mw_fd; rw [mw_sh_eq]; rfl
theorem mw_f_0_5 : mw_fd 0 5 = some (some 31) := by unfold mw_fd; rw [mw_sh_eq]; rfl
theorem mw_f_0_6 : mw_fd 0 6 = some (some 34) := by unfold mw_fd; rw [mw_sh_eq]; rfl
theorem mw_f_0_7 : mw_fd 0 7 = some (some 39) := by unfold mw_fd; rw [mw_sh_eq]; rfl
theorem mw_f_0_8 : mw_fd 0 8 = some (some 40) := by unfold mw_fd; rw [mw_sh_eq]; rfl
theorem mw_f_0_9 : mw_fd 0 9 = some none := by unfold mw_fd; rw [mw_sh_eq]; rfl
theorem mw_f_0_10 : mw_fd 0 10 = some none := by unfold mw_fd; rw [mw_sh_eq]; rfl
theorem mw_f_0_11 : mw_fd 0 11 = some none := by unfold mw_fd; rw [mw_sh_eq]; rfl
theorem mw_r_1 : mw_rw 1 = some (.byte, 700) := by unfold mw_rw; rw [mw_sh_eq]; rfl
theorem mw_c_2 : mw_cl 2 = some 0 := by unfold mw_cl; rw [mw_sh_eq]; rfl
theorem mw_f_2_0 : mw_fd 2 0 = some (some 3) := by unfold mw_fd; rw [mw_sh_eq]; rfl
theorem mw_f_2_1 : mw_fd 2 1 = some (some 5) := by unfold mw_fd; rw [mw_sh_eq]; rfl
theorem mw_f_2_2 : mw_fd 2 2 = some none := by unfold mw_fd; rw [mw_sh_eq]; rfl
theorem mw_f_2_3 : mw_fd 2 3 = some none := by unfold mw_fd; rw [mw_sh_eq]; rfl
theorem mw_f_2_4 : mw_fd 2 4 = some (some 6) := by unfold mw_fd; rw [mw_sh_eq]; rfl
theorem mw_f_2_5 : mw_fd 2 5 = some (some 7) := by unfold mw_fd; rw [mw_sh_eq]; rfl
theorem mw_f_2_6 : mw_fd 2 6 = some (some 8) := by unfold mw_fd; rw [mw_sh_eq]; rfl
theorem mw_f_2_7 : mw_fd 2 7 = some none := by unfold mw_fd; rw [mw_sh_eq]; rfl
theorem mw_f_2_8 : mw_fd 2 8 = some (some 9) := by unfold mw_fd; rw [mw_sh_eq]; rfl
theorem mw_c_3 : mw_cl 3 = some 3 := by unfold mw_cl; rw [mw_sh_eq]; rfl
theorem mw_f_3_0 : mw_fd 3 0 = some (some 4) := by unfold mw_fd; rw [mw_sh_eq]; rfl
theorem mw_r_4 : mw_rw 4 = some (.int, 64) := by unfold mw_rw; rw [mw_sh_eq]; rfl
theorem mw_r_5 : mw_rw 5 = some (.int, 2560) := by unfold mw_rw; rw [mw_sh_eq]; rfl
theorem mw_r_6 : mw_rw 6 = some (.int, 8) := by unfold mw_rw; rw [mw_sh_eq]; rfl
theorem mw_r_7 : mw_rw 7 = some (.int, 8) := by unfold mw_rw; rw [mw_sh_eq]; rfl
theorem mw_r_8 : mw_rw 8 = some (.int, 8) := by unfold mw_rw; rw [mw_sh_eq]; rfl
theorem mw_r_9 : mw_rw 9 = some (.int, 3) := by unfold mw_rw; rw [mw_sh_eq]; rfl
theorem mw_c_10 : mw_cl 10 = some 0 := by unfold mw_cl; rw [mw_sh_eq]; rfl
theorem mw_f_10_0 : mw_fd 10 0 = some (some 11) := by unfold mw_fd; rw [mw_sh_eq]; rfl
theorem mw_f_10_1 : mw_fd 10 1 = some (some 13) := by unfold mw_fd; rw [mw_sh_eq]; rfl
theorem mw_f_10_2 : mw_fd 10 2 = some none := by unfold mw_fd; rw [mw_sh_eq]; rfl
theorem mw_f_10_3 : mw_fd 10 3 = some none := by unfold mw_fd; rw [mw_sh_eq]; rfl
theorem mw_f_10_4 : mw_fd 10 4 = some (some 14) := by unfold mw_fd; rw [mw_sh_eq]; rfl
theorem mw_f_10_5 : mw_fd 10 5 = some (some 15) := by unfold mw_fd; rw [mw_sh_eq]; rfl
theorem mw_f_10_6 : mw_fd 10 6 = some (some 16) := by unfold mw_fd; rw [mw_sh_eq]; rfl
theorem mw_f_10_7 : mw_fd 10 7 = some none := by unfold mw_fd; rw [mw_sh_eq]; rfl
theorem mw_f_10_8 : mw_fd 10 8 = some (some 17) := by unfold mw_fd; rw [mw_sh_eq]; rfl
theorem mw_c_11 : mw_cl 11 = some 3 := by unfold mw_cl; rw [mw_sh_eq]; rfl
theorem mw_f_11_0 : mw_fd 11 0 = some (some 12) := by unfold mw_fd; rw [mw_sh_eq]; rfl
theorem mw_r_12 : mw_rw 12 = some (.int, 64) := by unfold mw_rw; rw [mw_sh_eq]; rfl
theorem mw_r_13 : mw_rw 13 = some (.int, 2560) := by unfold mw_rw; rw [mw_sh_eq]; rfl
theorem mw_r_14 : mw_rw 14 = some (.int, 8) := by unfold mw_rw; rw [mw_sh_eq]; rfl
theorem mw_r_15 : mw_rw 15 = some (.int, 8) := by unfold mw_rw; rw [mw_sh_eq]; rfl
theorem mw_r_16 : mw_rw 16 = some (.int, 8) := by unfold mw_rw; rw [mw_sh_eq]; rfl
theorem mw_r_17 : mw_rw 17 = some (.int, 3) := by unfold mw_rw; rw [mw_sh_eq]; rfl
theorem mw_c_18 : mw_cl 18 = some 6 := by unfold mw_cl; rw [mw_sh_eq]; rfl
theorem mw_f_18_0 : mw_fd 18 0 = some (some 19) := by unfold mw_fd; rw [mw_sh_eq]; rfl
theorem mw_f_18_1 : mw_fd 18 1 = some none := by unfold mw_fd; rw [mw_sh_eq]; rfl
theorem mw_f_18_2 : mw_fd 18 2 = some none := by unfold mw_fd; rw [mw_sh_eq]; rfl
theorem mw_f_18_3 : mw_fd 18 3 = some none := by unfold mw_fd; rw [mw_sh_eq]; rfl
theorem mw_f_18_4 : mw_fd 18 4 = some none := by unfold mw_fd; rw [mw_sh_eq]; rfl
theorem mw_f_18_5 : mw_fd 18 5 = some none := by unfold mw_fd; rw [mw_sh_eq]; rfl
theorem mw_f_18_6 : mw_fd 18 6 = some (some 20) := by unfold mw_fd; rw [mw_sh_eq]; rfl
theorem mw_f_18_7 : mw_fd 18 7 = some (some 21) := by unfold mw_fd; rw [mw_sh_eq]; rfl
theorem mw_r_19 : mw_rw 19 = some (.int, 700) := by unfold mw_rw; rw [mw_sh_eq]; rfl
theorem mw_r_20 : mw_rw 20 = some (.int, 6) := by unfold mw_rw; rw [mw_sh_eq]; rfl
theorem mw_r_21 : mw_rw 21 = some (.int, 40) := by unfold mw_rw; rw [mw_sh_eq]; rfl
theorem mw_c_22 : mw_cl 22 = some 5 := by unfold mw_cl; rw [mw_sh_eq]; rfl
theorem mw_f_22_0 : mw_fd 22 0 = some (some 23) := by unfold mw_fd; rw [mw_sh_eq]; rfl
theorem mw_f_22_1 : mw_fd 22 1 = some (some 25) := by unfold mw_fd; rw [mw_sh_eq]; rfl
theorem mw_f_22_2 : mw_fd 22 2 = some (some 27) := by unfold mw_fd; rw [mw_sh_eq]; rfl
theorem mw_f_22_3 : mw_fd 22 3 = some none := by unfold mw_fd; rw [mw_sh_eq]; rfl
theorem mw_f_22_4 : mw_fd 22 4 = some none := by unfold mw_fd; rw [mw_sh_eq]; rfl
theorem mw_c_23 : mw_cl 23 = some 7 := by unfold mw_cl; rw [mw_sh_eq]; rfl
theorem mw_f_23_0 : mw_fd 23 0 = some (some 24) := by unfold mw_fd; rw [mw_sh_eq]; rfl
theorem mw_f_23_1 : mw_fd 23 1 = some none := by unfold mw_fd; rw [mw_sh_eq]; rfl
theorem mw_f_23_2 : mw_fd 23 2 = some none := by unfold mw_fd; rw [mw_sh_eq]; rfl
theorem mw_f_23_3 : mw_fd 23 3 = some none := by unfold mw_fd; rw [mw_sh_eq]; rfl
theorem mw_f_23_4 : mw_fd 23 4 = some none := by unfold mw_fd; rw [mw_sh_eq]; rfl
theorem mw_f_23_5 : mw_fd 23 5 = some none := by unfold mw_fd; rw [mw_sh_eq]; rfl
theorem mw_r_24 : mw_rw 24 = some (.byte, 700) := by unfold mw_rw; rw [mw_sh_eq]; rfl
theorem mw_c_25 : mw_cl 25 = some 3 := by unfold mw_cl; rw [mw_sh_eq]; rfl
theorem mw_f_25_0 : mw_fd 25 0 = some (some 26) := by unfold mw_fd; rw [mw_sh_eq]; rfl
theorem mw_r_26 : mw_rw 26 = some (.int, 64) := by unfold mw_rw; rw [mw_sh_eq]; rfl
theorem mw_c_27 : mw_cl 27 = some 6 := by unfold mw_cl; rw [mw_sh_eq]; rfl
theorem mw_f_27_0 : mw_fd 27 0 = some (some 28) := by unfold mw_fd; rw [mw_sh_eq]; rfl
theorem mw_f_27_1 : mw_fd 27 1 = some none := by unfold mw_fd; rw [mw_sh_eq]; rfl
theorem mw_f_27_2 : mw_fd 27 2 = some none := by unfold mw_fd; rw [mw_sh_eq]; rfl
theorem mw_f_27_3 : mw_fd 27 3 = some none := by unfold mw_fd; rw [mw_sh_eq]; rfl
theorem mw_f_27_4 : mw_fd 27 4 = some none := by unfold mw_fd; rw [mw_sh_eq]; rfl
theorem mw_f_27_5 : mw_fd 27 5 = some none := by unfold mw_fd; rw [mw_sh_eq]; rfl
theorem mw_f_27_6 : mw_fd 27 6 = some (some 29) := by unfold mw_fd; rw [mw_sh_eq]; rfl
theorem mw_f_27_7 : mw_fd 27 7 = some (some 30) := by unfold mw_fd; rw [mw_sh_eq]; rfl
theorem mw_r_28 : mw_rw 28 = some (.int, 700) := by unfold mw_rw; rw [mw_sh_eq]; rfl
theorem mw_r_29 : mw_rw 29 = some (.int, 6) := by unfold mw_rw; rw [mw_sh_eq]; rfl
theorem mw_r_30 : mw_rw 30 = some (.int, 40) := by unfold mw_rw; rw [mw_sh_eq]; rfl
theorem mw_c_31 : mw_cl 31 = some 1 := by unfold mw_cl; rw [mw_sh_eq]; rfl
theorem mw_f_31_0 : mw_fd 31 0 = some (some 32) := by unfold mw_fd; rw [mw_sh_eq]; rfl
theorem mw_f_31_1 : mw_fd 31 1 = some (some 33) := by unfold mw_fd; rw [mw_sh_eq]; rfl
theorem mw_f_31_2 : mw_fd 31 2 = some none := by unfold mw_fd; rw [mw_sh_eq]; rfl
theorem mw_r_32 : mw_rw 32 = some (.int, 8) := by unfold mw_rw; rw [mw_sh_eq]; rfl
theorem mw_r_33 : mw_rw 33 = some (.int, 256) := by unfold mw_rw; rw [mw_sh_eq]; rfl
theorem mw_c_34 : mw_cl 34 = some 4 := by unfold mw_cl; rw [mw_sh_eq]; rfl
theorem mw_f_34_0 : mw_fd 34 0 = some (some 35) := by unfold mw_fd; rw [mw_sh_eq]; rfl
theorem mw_f_34_1 : mw_fd 34 1 = some (some 37) := by unfold mw_fd; rw [mw_sh_eq]; rfl
theorem mw_f_34_2 : mw_fd 34 2 = some (some 38) := by unfold mw_fd; rw [mw_sh_eq]; rfl
theorem mw_c_35 : mw_cl 35 = some 3 := by unfold mw_cl; rw [mw_sh_eq]; rfl
theorem mw_f_35_0 : mw_fd 35 0 = some (some 36) := by unfold mw_fd; rw [mw_sh_eq]; rfl
theorem mw_r_36 : mw_rw 36 = some (.int, 64) := by unfold mw_rw; rw [mw_sh_eq]; rfl
theorem mw_r_37 : mw_rw 37 = some (.boolean, 80) := by unfold mw_rw; rw [mw_sh_eq]; rfl
theorem mw_l_38 : mw_ll 38 = some 56 := by unfold mw_ll; rw [mw_sh_eq]; rfl
theorem mw_c_39 : mw_cl 39 = some 2 := by unfold mw_cl; rw [mw_sh_eq]; rfl
theorem mw_f_39_0 : mw_fd 39 0 = some none := by unfold mw_fd; rw [mw_sh_eq]; rfl
theorem mw_c_40 : mw_cl 40 = some 3 := by unfold mw_cl; rw [mw_sh_eq]; rfl
theorem mw_f_40_0 : mw_fd 40 0 = some (some 41) := by unfold mw_fd; rw [mw_sh_eq]; rfl
theorem mw_r_41 : mw_rw 41 = some (.int, 64) := by unfold mw_rw; rw [mw_sh_eq]; rfl
theorem mw_c_42 : mw_cl 42 = some 9 := by unfold mw_cl; rw [mw_sh_eq]; rfl
theorem mw_f_42_0 : mw_fd 42 0 = some (some 43) := by unfold mw_fd; rw [mw_sh_eq]; rfl
theorem mw_f_42_1 : mw_fd 42 1 = some (some 44) := by unfold mw_fd; rw [mw_sh_eq]; rfl
theorem mw_f_42_2 : mw_fd 42 2 = some none := by unfold mw_fd; rw [mw_sh_eq]; rfl
theorem mw_f_42_3 : mw_fd 42 3 = some (some 45) := by unfold mw_fd; rw [mw_sh_eq]; rfl
theorem mw_f_42_4 : mw_fd 42 4 = some (some 46) := by unfold mw_fd; rw [mw_sh_eq]; rfl
theorem mw_f_42_5 : mw_fd 42 5 = some (some 47) := by unfold mw_fd; rw [mw_sh_eq]; rfl
theorem mw_f_42_6 : mw_fd 42 6 = some (some 48) := by unfold mw_fd; rw [mw_sh_eq]; rfl
theorem mw_f_42_7 : mw_fd 42 7 = some (some 49) := by unfold mw_fd; rw [mw_sh_eq]; rfl
theorem mw_f_42_8 : mw_fd 42 8 = some (some 50) := by unfold mw_fd; rw [mw_sh_eq]; rfl
theorem mw_f_42_9 : mw_fd 42 9 = some (some 51) := by unfold mw_fd; rw [mw_sh_eq]; rfl
theorem mw_f_42_10 : mw_fd 42 10 = some (some 52) := by unfold mw_fd; rw [mw_sh_eq]; rfl
theorem mw_f_42_11 : mw_fd 42 11 = some (some 53) := by unfold mw_fd; rw [mw_sh_eq]; rfl
theorem mw_f_42_12 : mw_fd 42 12 = some (some 54) := by unfold mw_fd; rw [mw_sh_eq]; rfl
theorem mw_f_42_13 : mw_fd 42 13 = some (some 55) := by unfold mw_fd; rw [mw_sh_eq]; rfl
theorem mw_f_42_14 : mw_fd 42 14 = some (some 56) := by unfold mw_fd; rw [mw_sh_eq]; rfl
theorem mw_f_42_15 : mw_fd 42 15 = some none := by unfold mw_fd; rw [mw_sh_eq]; rfl
theorem mw_f_42_16 : mw_fd 42 16 = some none := by unfold mw_fd; rw [mw_sh_eq]; rfl
theorem mw_f_42_17 : mw_fd 42 17 = some none := by unfold mw_fd; rw [mw_sh_eq]; rfl
theorem mw_f_42_18 : mw_fd 42 18 = some none := by unfold mw_fd; rw [mw_sh_eq]; rfl
theorem mw_f_42_19 : mw_fd 42 19 = some none := by unfold mw_fd; rw [mw_sh_eq]; rfl
theorem mw_f_42_20 : mw_fd 42 20 = some none := by unfold mw_fd; rw [mw_sh_eq]; rfl
theorem mw_f_42_21 : mw_fd 42 21 = some none := by unfold mw_fd; rw [mw_sh_eq]; rfl
theorem mw_f_42_22 : mw_fd 42 22 = some none := by unfold mw_fd; rw [mw_sh_eq]; rfl
theorem mw_f_42_23 : mw_fd 42 23 = some none := by unfold mw_fd; rw [mw_sh_eq]; rfl
theorem mw_f_42_24 : mw_fd 42 24 = some none := by unfold mw_fd; rw [mw_sh_eq]; rfl
theorem mw_f_42_25 : mw_fd 42 25 = some none := by unfold mw_fd; rw [mw_sh_eq]; rfl
theorem mw_f_42_26 : mw_fd 42 26 = some (some 57) := by unfold mw_fd; rw [mw_sh_eq]; rfl
theorem mw_f_42_27 : mw_fd 42 27 = some (some 58) := by unfold mw_fd; rw [mw_sh_eq]; rfl
theorem mw_f_42_28 : mw_fd 42 28 = some (some 59) := by unfold mw_fd; rw [mw_sh_eq]; rfl
theorem mw_f_42_29 : mw_fd 42 29 = some (some 60) := by unfold mw_fd; rw [mw_sh_eq]; rfl
theorem mw_f_42_30 : mw_fd 42 30 = some (some 61) := by unfold mw_fd; rw [mw_sh_eq]; rfl
theorem mw_f_42_31 : mw_fd 42 31 = some (some 62) := by unfold mw_fd; rw [mw_sh_eq]; rfl
theorem mw_f_42_32 : mw_fd 42 32 = some none := by unfold mw_fd; rw [mw_sh_eq]; rfl
theorem mw_f_42_33 : mw_fd 42 33 = some none := by unfold mw_fd; rw [mw_sh_eq]; rfl
theorem mw_f_42_34 : mw_fd 42 34 = some none := by unfold mw_fd; rw [mw_sh_eq]; rfl
theorem mw_f_42_35 : mw_fd 42 35 = some none := by unfold mw_fd; rw [mw_sh_eq]; rfl
theorem mw_f_42_36 : mw_fd 42 36 = some (some 63) := by unfold mw_fd; rw [mw_sh_eq]; rfl
theorem mw_f_42_37 : mw_fd 42 37 = some (some 64) := by unfold mw_fd; rw [mw_sh_eq]; rfl
theorem mw_f_42_38 : mw_fd 42 38 = some (some 65) := by unfold mw_fd; rw [mw_sh_eq]; rfl
theorem mw_f_42_39 : mw_fd 42 39 = some (some 66) := by unfold mw_fd; rw [mw_sh_eq]; rfl
theorem mw_f_42_40 : mw_fd 42 40 = some (some 67) := by unfold mw_fd; rw [mw_sh_eq]; rfl
theorem mw_f_42_41 : mw_fd 42 41 = some (some 68) := by unfold mw_fd; rw [mw_sh_eq]; rfl
theorem mw_f_42_42 : mw_fd 42 42 = some (some 69) := by unfold mw_fd; rw [mw_sh_eq]; rfl
theorem mw_f_42_43 : mw_fd 42 43 = some (some 70) := by unfold mw_fd; rw [mw_sh_eq]; rfl
theorem mw_f_42_44 : mw_fd 42 44 = some (some 71) := by unfold mw_fd; rw [mw_sh_eq]; rfl
theorem mw_f_42_45 : mw_fd 42 45 = some (some 72) := by unfold mw_fd; rw [mw_sh_eq]; rfl
theorem mw_f_42_46 : mw_fd 42 46 = some none := by unfold mw_fd; rw [mw_sh_eq]; rfl
theorem mw_f_42_47 : mw_fd 42 47 = some none := by unfold mw_fd; rw [mw_sh_eq]; rfl
theorem mw_f_42_48 : mw_fd 42 48 = some none := by unfold mw_fd; rw [mw_sh_eq]; rfl
theorem mw_f_42_49 : mw_fd 42 49 = some none := by unfold mw_fd; rw [mw_sh_eq]; rfl
theorem mw_f_42_50 : mw_fd 42 50 = some none := by unfold mw_fd; rw [mw_sh_eq]; rfl
theorem mw_f_42_51 : mw_fd 42 51 = some (some 73) := by unfold mw_fd; rw [mw_sh_eq]; rfl
theorem mw_f_42_52 : mw_fd 42 52 = some (some 74) := by unfold mw_fd; rw [mw_sh_eq]; rfl
theorem mw_f_42_53 : mw_fd 42 53 = some (some 75) := by unfold mw_fd; rw [mw_sh_eq]; rfl
theorem mw_f_42_54 : mw_fd 42 54 = some (some 76) := by unfold mw_fd; rw [mw_sh_eq]; rfl
theorem mw_f_42_55 : mw_fd 42 55 = some (some 77) := by unfold mw_fd; rw [mw_sh_eq]; rfl
theorem mw_f_42_56 : mw_fd 42 56 = some (some 78) := by unfold mw_fd; rw [mw_sh_eq]; rfl
theorem mw_t_43 : mw_sh[43]? = some (.inr (.inr (.inr [1000108, 1000109]))) := by rw [mw_sh_eq]; rfl
theorem mw_t_44 : mw_sh[44]? = some (.inr (.inr (.inr [1000110, 1000111, 1000112, 1000113, 1000114, 1000115]))) := by rw [mw_sh_eq]; rfl
theorem mw_r_45 : mw_rw 45 = some (.int, 6) := by unfold mw_rw; rw [mw_sh_eq]; rfl
theorem mw_r_46 : mw_rw 46 = some (.int, 16) := by unfold mw_rw; rw [mw_sh_eq]; rfl
theorem mw_r_47 : mw_rw 47 = some (.int, 16) := by unfold mw_rw; rw [mw_sh_eq]; rfl
theorem mw_r_48 : mw_rw 48 = some (.int, 16) := by unfold mw_rw; rw [mw_sh_eq]; rfl
theorem mw_r_49 : mw_rw 49 = some (.int, 16) := by unfold mw_rw; rw [mw_sh_eq]; rfl
theorem mw_r_50 : mw_rw 50 = some (.int, 128) := by unfold mw_rw; rw [mw_sh_eq]; rfl
theorem mw_r_51 : mw_rw 51 = some (.int, 128) := by unfold mw_rw; rw [mw_sh_eq]; rfl
theorem mw_r_52 : mw_rw 52 = some (.int, 1400) := by unfold mw_rw; rw [mw_sh_eq]; rfl
theorem mw_r_53 : mw_rw 53 = some (.int, 1400) := by unfold mw_rw; rw [mw_sh_eq]; rfl
theorem mw_r_54 : mw_rw 54 = some (.int, 3) := by unfold mw_rw; rw [mw_sh_eq]; rfl
theorem mw_r_55 : mw_rw 55 = some (.int, 8) := by unfold mw_rw; rw [mw_sh_eq]; rfl
theorem mw_r_56 : mw_rw 56 = some (.int, 700) := by unfold mw_rw; rw [mw_sh_eq]; rfl
theorem mw_r_57 : mw_rw 57 = some (.int, 8) := by unfold mw_rw; rw [mw_sh_eq]; rfl
theorem mw_r_58 : mw_rw 58 = some (.int, 8) := by unfold mw_rw; rw [mw_sh_eq]; rfl
theorem mw_r_59 : mw_rw 59 = some (.int, 64) := by unfold mw_rw; rw [mw_sh_eq]; rfl
theorem mw_r_60 : mw_rw 60 = some (.int, 64) := by unfold mw_rw; rw [mw_sh_eq]; rfl
theorem mw_r_61 : mw_rw 61 = some (.int, 64) := by unfold mw_rw; rw [mw_sh_eq]; rfl
theorem mw_r_62 : mw_rw 62 = some (.int, 8400) := by unfold mw_rw; rw [mw_sh_eq]; rfl
theorem mw_r_63 : mw_rw 63 = some (.int, 6) := by unfold mw_rw; rw [mw_sh_eq]; rfl
theorem mw_r_64 : mw_rw 64 = some (.int, 64) := by unfold mw_rw; rw [mw_sh_eq]; rfl
theorem mw_r_65 : mw_rw 65 = some (.int, 256) := by unfold mw_rw; rw [mw_sh_eq]; rfl
theorem mw_r_66 : mw_rw 66 = some (.int, 210) := by unfold mw_rw; rw [mw_sh_eq]; rfl
theorem mw_r_67 : mw_rw 67 = some (.int, 8) := by unfold mw_rw; rw [mw_sh_eq]; rfl
theorem mw_r_68 : mw_rw 68 = some (.int, 8) := by unfold mw_rw; rw [mw_sh_eq]; rfl
theorem mw_r_69 : mw_rw 69 = some (.int, 8) := by unfold mw_rw; rw [mw_sh_eq]; rfl
theorem mw_r_70 : mw_rw 70 = some (.int, 210) := by unfold mw_rw; rw [mw_sh_eq]; rfl
theorem mw_r_71 : mw_rw 71 = some (.int, 80) := by unfold mw_rw; rw [mw_sh_eq]; rfl
theorem mw_r_72 : mw_rw 72 = some (.int, 5120) := by unfold mw_rw; rw [mw_sh_eq]; rfl
theorem mw_r_73 : mw_rw 73 = some (.int, 210) := by unfold mw_rw; rw [mw_sh_eq]; rfl
theorem mw_r_74 : mw_rw 74 = some (.int, 8400) := by unfold mw_rw; rw [mw_sh_eq]; rfl
theorem mw_r_75 : mw_rw 75 = some (.int, 8) := by unfold mw_rw; rw [mw_sh_eq]; rfl
theorem mw_r_76 : mw_rw 76 = some (.int, 8) := by unfold mw_rw; rw [mw_sh_eq]; rfl
theorem mw_r_77 : mw_rw 77 = some (.int, 8) := by unfold mw_rw; rw [mw_sh_eq]; rfl
theorem mw_r_78 : mw_rw 78 = some (.int, 3) := by unfold mw_rw; rw [mw_sh_eq]; rfl
theorem mw_l_79 : mw_ll 79 = some 1 := by unfold mw_ll; rw [mw_sh_eq]; rfl
theorem mw_is0 {k : Nat} (h : mw_cl k = some 0) : k = 2 ∨ k = 10 := by
  have hk : k < 80 := by
    obtain ⟨fs, hf⟩ := mw_cl_at h
    have := (List.getElem?_eq_some_iff.mp hf).1
    rw [mw_sh_eq] at this
    exact this
  unfold mw_cl at h
  rw [mw_sh_eq] at h
  have H : ∀ k : Fin 80, (match mw_sh0[(k : Nat)]? with | some (.inr (.inl (ci, _))) => some ci | _ => none) = some 0 → (k : Nat) = 2 ∨ (k : Nat) = 10 := by decide +kernel
  exact H ⟨k, hk⟩ h
theorem mw_f0_0 {k : Nat} (h : mw_cl k = some 0) : mw_fd k 0 = some (some (k + 1)) := by
  rcases mw_is0 h with h | h <;> subst h
  · exact mw_f_2_0
  · exact mw_f_10_0
theorem mw_o0_0 {k : Nat} (h : mw_cl k = some 0) : mw_cl (k + 1) = some 3 := by
  rcases mw_is0 h with h | h <;> subst h
  · exact mw_c_3
  · exact mw_c_11
theorem mw_f0_1 {k : Nat} (h : mw_cl k = some 0) : mw_fd k 1 = some (some (k + 3)) := by
  rcases mw_is0 h with h | h <;> subst h
  · exact mw_f_2_1
  · exact mw_f_10_1
theorem mw_a0_1 {k : Nat} (h : mw_cl k = some 0) : mw_rw (k + 3) = some (.int, 2560) := by
  rcases mw_is0 h with h | h <;> subst h
  · exact mw_r_5
  · exact mw_r_13
theorem mw_f0_2 {k : Nat} (h : mw_cl k = some 0) : mw_fd k 2 = some none := by
  rcases mw_is0 h with h | h <;> subst h
  · exact mw_f_2_2
  · exact mw_f_10_2
theorem mw_f0_3 {k : Nat} (h : mw_cl k = some 0) : mw_fd k 3 = some none := by
  rcases mw_is0 h with h | h <;> subst h
  · exact mw_f_2_3
  · exact mw_f_10_3
theorem mw_f0_4 {k : Nat} (h : mw_cl k = some 0) : mw_fd k 4 = some (some (k + 4)) := by
  rcases mw_is0 h with h | h <;> subst h
  · exact mw_f_2_4
  · exact mw_f_10_4
theorem mw_a0_4 {k : Nat} (h : mw_cl k = some 0) : mw_rw (k + 4) = some (.int, 8) := by
  rcases mw_is0 h with h | h <;> subst h
  · exact mw_r_6
  · exact mw_r_14
theorem mw_f0_5 {k : Nat} (h : mw_cl k = some 0) : mw_fd k 5 = some (some (k + 5)) := by
  rcases mw_is0 h with h | h <;> subst h
  · exact mw_f_2_5
  · exact mw_f_10_5
theorem mw_a0_5 {k : Nat} (h : mw_cl k = some 0) : mw_rw (k + 5) = some (.int, 8) := by
  rcases mw_is0 h with h | h <;> subst h
  · exact mw_r_7
  · exact mw_r_15
theorem mw_f0_6 {k : Nat} (h : mw_cl k = some 0) : mw_fd k 6 = some (some (k + 6)) := by
  rcases mw_is0 h with h | h <;> subst h
  · exact mw_f_2_6
  · exact mw_f_10_6
theorem mw_a0_6 {k : Nat} (h : mw_cl k = some 0) : mw_rw (k + 6) = some (.int, 8) := by
  rcases mw_is0 h with h | h <;> subst h
  · exact mw_r_8
  · exact mw_r_16
theorem mw_f0_7 {k : Nat} (h : mw_cl k = some 0) : mw_fd k 7 = some none := by
  rcases mw_is0 h with h | h <;> subst h
  · exact mw_f_2_7
  · exact mw_f_10_7
theorem mw_f0_8 {k : Nat} (h : mw_cl k = some 0) : mw_fd k 8 = some (some (k + 7)) := by
  rcases mw_is0 h with h | h <;> subst h
  · exact mw_f_2_8
  · exact mw_f_10_8
theorem mw_a0_8 {k : Nat} (h : mw_cl k = some 0) : mw_rw (k + 7) = some (.int, 3) := by
  rcases mw_is0 h with h | h <;> subst h
  · exact mw_r_9
  · exact mw_r_17
theorem mw_is3 {k : Nat} (h : mw_cl k = some 3) : k = 3 ∨ k = 11 ∨ k = 25 ∨ k = 35 ∨ k = 40 := by
  have hk : k < 80 := by
    obtain ⟨fs, hf⟩ := mw_cl_at h
    have := (List.getElem?_eq_some_iff.mp hf).1
    rw [mw_sh_eq] at this
    exact this
  unfold mw_cl at h
  rw [mw_sh_eq] at h
  have H : ∀ k : Fin 80, (match mw_sh0[(k : Nat)]? with | some (.inr (.inl (ci, _))) => some ci | _ => none) = some 3 → (k : Nat) = 3 ∨ (k : Nat) = 11 ∨ (k : Nat) = 25 ∨ (k : Nat) = 35 ∨ (k : Nat) = 40 := by decide +kernel
  exact H ⟨k, hk⟩ h
theorem mw_f3_0 {k : Nat} (h : mw_cl k = some 3) : mw_fd k 0 = some (some (k + 1)) := by
  rcases mw_is3 h with h | h | h | h | h <;> subst h
  · exact mw_f_3_0
  · exact mw_f_11_0
  · exact mw_f_25_0
  · exact mw_f_35_0
  · exact mw_f_40_0
theorem mw_a3_0 {k : Nat} (h : mw_cl k = some 3) : mw_rw (k + 1) = some (.int, 64) := by
  rcases mw_is3 h with h | h | h | h | h <;> subst h
  · exact mw_r_4
  · exact mw_r_12
  · exact mw_r_26
  · exact mw_r_36
  · exact mw_r_41
theorem mw_is6 {k : Nat} (h : mw_cl k = some 6) : k = 18 ∨ k = 27 := by
  have hk : k < 80 := by
    obtain ⟨fs, hf⟩ := mw_cl_at h
    have := (List.getElem?_eq_some_iff.mp hf).1
    rw [mw_sh_eq] at this
    exact this
  unfold mw_cl at h
  rw [mw_sh_eq] at h
  have H : ∀ k : Fin 80, (match mw_sh0[(k : Nat)]? with | some (.inr (.inl (ci, _))) => some ci | _ => none) = some 6 → (k : Nat) = 18 ∨ (k : Nat) = 27 := by decide +kernel
  exact H ⟨k, hk⟩ h
theorem mw_f6_0 {k : Nat} (h : mw_cl k = some 6) : mw_fd k 0 = some (some (k + 1)) := by
  rcases mw_is6 h with h | h <;> subst h
  · exact mw_f_18_0
  · exact mw_f_27_0
theorem mw_a6_0 {k : Nat} (h : mw_cl k = some 6) : mw_rw (k + 1) = some (.int, 700) := by
  rcases mw_is6 h with h | h <;> subst h
  · exact mw_r_19
  · exact mw_r_28
theorem mw_f6_1 {k : Nat} (h : mw_cl k = some 6) : mw_fd k 1 = some none := by
  rcases mw_is6 h with h | h <;> subst h
  · exact mw_f_18_1
  · exact mw_f_27_1
theorem mw_f6_2 {k : Nat} (h : mw_cl k = some 6) : mw_fd k 2 = some none := by
  rcases mw_is6 h with h | h <;> subst h
  · exact mw_f_18_2
  · exact mw_f_27_2
theorem mw_f6_3 {k : Nat} (h : mw_cl k = some 6) : mw_fd k 3 = some none := by
  rcases mw_is6 h with h | h <;> subst h
  · exact mw_f_18_3
  · exact mw_f_27_3
theorem mw_f6_4 {k : Nat} (h : mw_cl k = some 6) : mw_fd k 4 = some none := by
  rcases mw_is6 h with h | h <;> subst h
  · exact mw_f_18_4
  · exact mw_f_27_4
theorem mw_f6_5 {k : Nat} (h : mw_cl k = some 6) : mw_fd k 5 = some none := by
  rcases mw_is6 h with h | h <;> subst h
  · exact mw_f_18_5
  · exact mw_f_27_5
theorem mw_f6_6 {k : Nat} (h : mw_cl k = some 6) : mw_fd k 6 = some (some (k + 2)) := by
  rcases mw_is6 h with h | h <;> subst h
  · exact mw_f_18_6
  · exact mw_f_27_6
theorem mw_a6_6 {k : Nat} (h : mw_cl k = some 6) : mw_rw (k + 2) = some (.int, 6) := by
  rcases mw_is6 h with h | h <;> subst h
  · exact mw_r_20
  · exact mw_r_29
theorem mw_f6_7 {k : Nat} (h : mw_cl k = some 6) : mw_fd k 7 = some (some (k + 3)) := by
  rcases mw_is6 h with h | h <;> subst h
  · exact mw_f_18_7
  · exact mw_f_27_7
theorem mw_a6_7 {k : Nat} (h : mw_cl k = some 6) : mw_rw (k + 3) = some (.int, 40) := by
  rcases mw_is6 h with h | h <;> subst h
  · exact mw_r_21
  · exact mw_r_30
abbrev mw_M0 : mj_M := (⟨"WivesQuarrels$Books", "<init>", "()V"⟩, prog_2_method_1_code, 1, none, 0, 0, true, [])
theorem mw_m0 : mj_meth 0 = some mw_M0 := rfl
abbrev mw_M1 : mj_M := (⟨"WivesQuarrels$Books", "folk", "()LWivesQuarrels$Folk;"⟩, prog_2_method_2_code, 1, some (.object "WivesQuarrels$Folk"), 0, 0, false, [])
theorem mw_m1 : mj_meth 1 = some mw_M1 := rfl
abbrev mw_M2 : mj_M := (⟨"WivesQuarrels$Books", "refuse", "(I)I"⟩, prog_2_method_6_code, 2, some .int, 1, 0, false, [])
theorem mw_m2 : mj_meth 2 = some mw_M2 := rfl
abbrev mw_M3 : mj_M := (⟨"WivesQuarrels$Books", "keepAct", "()V"⟩, prog_2_method_9_code, 1, none, 0, 0, false, [])
theorem mw_m3 : mj_meth 3 = some mw_M3 := rfl
abbrev mw_M4 : mj_M := (⟨"WivesQuarrels$Books", "takeBackAct", "()I"⟩, prog_2_method_10_code, 1, some .int, 0, 0, false, [])
theorem mw_m4 : mj_meth 4 = some mw_M4 := rfl
abbrev mw_M5 : mj_M := (⟨"WivesQuarrels$Books", "dropSights", "()V"⟩, prog_2_method_12_code, 1, none, 0, 0, false, [])
theorem mw_m5 : mj_meth 5 = some mw_M5 := rfl
abbrev mw_M6 : mj_M := (⟨"WivesQuarrels$Books", "copyFrom", "(LWivesQuarrels$Books;)V"⟩, prog_2_method_8_code, 2, none, 1, 0, false, [])
theorem mw_m6 : mj_meth 6 = some mw_M6 := rfl
abbrev mw_M7 : mj_M := (⟨"WivesQuarrels$Books", "beginAnew", "(LWivesQuarrels$Folk;)V"⟩, prog_2_method_7_code, 2, none, 1, 0, false, [])
theorem mw_m7 : mj_meth 7 = some mw_M7 := rfl
abbrev mw_M8 : mj_M := (⟨"WivesQuarrels$Books", "acts", "()I"⟩, prog_2_method_3_code, 1, some .int, 0, 0, false, [])
theorem mw_m8 : mj_meth 8 = some mw_M8 := rfl
abbrev mw_M9 : mj_M := (⟨"WivesQuarrels$Books", "sights", "()I"⟩, prog_2_method_4_code, 1, some .int, 0, 0, false, [])
theorem mw_m9 : mj_meth 9 = some mw_M9 := rfl
abbrev mw_M10 : mj_M := (⟨"WivesQuarrels$Books", "refusals", "(I)I"⟩, prog_2_method_5_code, 2, some .int, 1, 0, false, [])
theorem mw_m10 : mj_meth 10 = some mw_M10 := rfl
abbrev mw_M11 : mj_M := (⟨"WivesQuarrels$Books", "addSight", "(III)I"⟩, prog_2_method_11_code, 4, some .int, 3, 0, false, [])
theorem mw_m11 : mj_meth 11 = some mw_M11 := rfl
abbrev mw_M12 : mj_M := (⟨"WivesQuarrels$Books", "lastSeenWeek", "()I"⟩, prog_2_method_13_code, 3, some .int, 0, 0, false, [])
theorem mw_m12 : mj_meth 12 = some mw_M12 := rfl
abbrev mw_M13 : mj_M := (⟨"WivesQuarrels$Books", "fits", "(LWivesQuarrels$Folk;I)Z"⟩, prog_2_method_14_code, 4, some .boolean, 2, 0, false, [])
theorem mw_m13 : mj_meth 13 = some mw_M13 := rfl
abbrev mw_M14 : mj_M := (⟨"WivesQuarrels$Circle", "<init>", "()V"⟩, prog_3_method_1_code, 1, none, 0, 1, true, [])
theorem mw_m14 : mj_meth 14 = some mw_M14 := rfl
abbrev mw_M15 : mj_M := (⟨"WivesQuarrels$Circle", "gather", "(LWivesQuarrels$Folk;)V"⟩, prog_3_method_2_code, 3, none, 1, 1, false, [])
theorem mw_m15 : mj_meth 15 = some mw_M15 := rfl
abbrev mw_M16 : mj_M := (⟨"WivesQuarrels$Circle", "oneCamp", "()I"⟩, prog_3_method_9_code, 5, some .int, 0, 1, false, [])
theorem mw_m16 : mj_meth 16 = some mw_M16 := rfl
abbrev mw_M17 : mj_M := (⟨"WivesQuarrels$Circle", "tiesOfAny", "(I)I"⟩, prog_3_method_3_code, 4, some .int, 1, 1, false, [])
theorem mw_m17 : mj_meth 17 = some mw_M17 := rfl
abbrev mw_M18 : mj_M := (⟨"WivesQuarrels$Circle", "threes", "()I"⟩, prog_3_method_13_code, 5, some .int, 0, 1, false, [])
theorem mw_m18 : mj_meth 18 = some mw_M18 := rfl
abbrev mw_M19 : mj_M := (⟨"WivesQuarrels$Circle", "foesOfAll", "()I"⟩, prog_3_method_14_code, 4, some .int, 0, 1, false, [])
theorem mw_m19 : mj_meth 19 = some mw_M19 := rfl
abbrev mw_M20 : mj_M := (⟨"WivesQuarrels$Circle", "fewestTables", "()I"⟩, prog_3_method_7_code, 2, some .int, 0, 1, false, [])
theorem mw_m20 : mj_meth 20 = some mw_M20 := rfl
abbrev mw_M21 : mj_M := (⟨"WivesQuarrels$Circle", "allLive", "(I)Z"⟩, prog_3_method_5_code, 2, some .boolean, 1, 1, false, [])
theorem mw_m21 : mj_meth 21 = some mw_M21 := rfl
abbrev mw_M22 : mj_M := (⟨"WivesQuarrels$Circle", "tablesFor", "(I)I"⟩, prog_3_method_8_code, 6, some .int, 1, 1, false, [])
theorem mw_m22 : mj_meth 22 = some mw_M22 := rfl
abbrev mw_M23 : mj_M := (⟨"WivesQuarrels$Circle", "isPeaceful", "(I)Z"⟩, prog_3_method_4_code, 2, some .boolean, 1, 1, false, [])
theorem mw_m23 : mj_meth 23 = some mw_M23 := rfl
abbrev mw_M24 : mj_M := (⟨"WivesQuarrels$Circle", "mostAsked", "()I"⟩, prog_3_method_6_code, 4, some .int, 0, 1, false, [])
theorem mw_m24 : mj_meth 24 = some mw_M24 := rfl
abbrev mw_M25 : mj_M := (⟨"WivesQuarrels$Circle", "steps", "(II)I"⟩, prog_3_method_10_code, 5, some .int, 2, 1, false, [])
theorem mw_m25 : mj_meth 25 = some mw_M25 := rfl
abbrev mw_M26 : mj_M := (⟨"WivesQuarrels$Circle", "oneStepFrom", "(I)I"⟩, prog_3_method_11_code, 4, some .int, 1, 1, false, [])
theorem mw_m26 : mj_meth 26 = some mw_M26 := rfl
abbrev mw_M27 : mj_M := (⟨"WivesQuarrels$Circle", "friendsOf", "(I)I"⟩, prog_3_method_12_code, 3, some .int, 1, 1, false, [])
theorem mw_m27 : mj_meth 27 = some mw_M27 := rfl
abbrev mw_M28 : mj_M := (⟨"WivesQuarrels$Fate", "<init>", "()V"⟩, prog_4_method_1_code, 1, none, 0, 2, true, [])
theorem mw_m28 : mj_meth 28 = some mw_M28 := rfl
abbrev mw_M29 : mj_M := (⟨"WivesQuarrels$Fate", "run", "(LWivesQuarrels$Folk;LWivesQuarrels$Rules;II)V"⟩, prog_4_method_3_code, 7, none, 4, 2, false, [])
theorem mw_m29 : mj_meth 29 = some mw_M29 := rfl
abbrev mw_M30 : mj_M := (⟨"WivesQuarrels$Fate", "draw", "(I)I"⟩, prog_4_method_2_code, 2, some .int, 1, 2, false, [])
theorem mw_m30 : mj_meth 30 = some mw_M30 := rfl
abbrev mw_M31 : mj_M := (⟨"WivesQuarrels$Fate", "strike", "(LWivesQuarrels$Folk;I)V"⟩, prog_4_method_4_code, 5, none, 2, 2, false, [])
theorem mw_m31 : mj_meth 31 = some mw_M31 := rfl
abbrev mw_M32 : mj_M := (⟨"WivesQuarrels$Fate", "strikeUpQuarrel", "(LWivesQuarrels$Folk;)V"⟩, prog_4_method_5_code, 6, none, 1, 2, false, [])
theorem mw_m32 : mj_meth 32 = some mw_M32 := rfl
abbrev mw_M33 : mj_M := (⟨"WivesQuarrels$Folk", "<init>", "()V"⟩, prog_5_method_1_code, 1, none, 0, 3, true, [])
theorem mw_m33 : mj_meth 33 = some mw_M33 := rfl
abbrev mw_M34 : mj_M := (⟨"WivesQuarrels$Folk", "week", "()I"⟩, prog_5_method_9_code, 1, some .int, 0, 3, false, [])
theorem mw_m34 : mj_meth 34 = some mw_M34 := rfl
abbrev mw_M35 : mj_M := (⟨"WivesQuarrels$Folk", "saveTo", "([II)V"⟩, prog_5_method_4_code, 3, none, 2, 3, false, [])
theorem mw_m35 : mj_meth 35 = some mw_M35 := rfl
abbrev mw_M36 : mj_M := (⟨"WivesQuarrels$Folk", "hasQuarrel", "(I)Z"⟩, prog_5_method_18_code, 2, some .boolean, 1, 3, false, [])
theorem mw_m36 : mj_meth 36 = some mw_M36 := rfl
abbrev mw_M37 : mj_M := (⟨"WivesQuarrels$Folk", "heat", "(I)I"⟩, prog_5_method_19_code, 2, some .int, 1, 3, false, [])
theorem mw_m37 : mj_meth 37 = some mw_M37 := rfl
abbrev mw_M38 : mj_M := (⟨"WivesQuarrels$Folk", "nerve", "(I)I"⟩, prog_5_method_12_code, 2, some .int, 1, 3, false, [])
theorem mw_m38 : mj_meth 38 = some mw_M38 := rfl
abbrev mw_M39 : mj_M := (⟨"WivesQuarrels$Folk", "isPlace", "(I)Z"⟩, prog_5_method_6_code, 1, some .boolean, 1, 3, false, [])
theorem mw_m39 : mj_meth 39 = some mw_M39 := rfl
abbrev mw_M40 : mj_M := (⟨"WivesQuarrels$Folk", "ties", "(I)I"⟩, prog_5_method_26_code, 2, some .int, 1, 3, false, [])
theorem mw_m40 : mj_meth 40 = some mw_M40 := rfl
abbrev mw_M41 : mj_M := (⟨"WivesQuarrels$Folk", "cut", "(I)I"⟩, prog_5_method_21_code, 2, some .int, 1, 3, false, [])
theorem mw_m41 : mj_meth 41 = some mw_M41 := rfl
abbrev mw_M42 : mj_M := (⟨"WivesQuarrels$Folk", "end", "(I)V"⟩, prog_5_method_23_code, 2, none, 1, 3, false, [])
theorem mw_m42 : mj_meth 42 = some mw_M42 := rfl
abbrev mw_M43 : mj_M := (⟨"WivesQuarrels$Folk", "setHeat", "(II)V"⟩, prog_5_method_24_code, 3, none, 2, 3, false, [])
theorem mw_m43 : mj_meth 43 = some mw_M43 := rfl
abbrev mw_M44 : mj_M := (⟨"WivesQuarrels$Folk", "addCut", "(I)V"⟩, prog_5_method_25_code, 2, none, 1, 3, false, [])
theorem mw_m44 : mj_meth 44 = some mw_M44 := rfl
abbrev mw_M45 : mj_M := (⟨"WivesQuarrels$Folk", "endWeek", "()V"⟩, prog_5_method_10_code, 1, none, 0, 3, false, [])
theorem mw_m45 : mj_meth 45 = some mw_M45 := rfl
abbrev mw_M46 : mj_M := (⟨"WivesQuarrels$Folk", "loadFrom", "([II)V"⟩, prog_5_method_5_code, 3, none, 2, 3, false, [])
theorem mw_m46 : mj_meth 46 = some mw_M46 := rfl
abbrev mw_M47 : mj_M := (⟨"WivesQuarrels$Folk", "copyFrom", "(LWivesQuarrels$Folk;)V"⟩, prog_5_method_3_code, 2, none, 1, 3, false, [])
theorem mw_m47 : mj_meth 47 = some mw_M47 := rfl
abbrev mw_M48 : mj_M := (⟨"WivesQuarrels$Folk", "quarrels", "()I"⟩, prog_5_method_28_code, 3, some .int, 0, 3, false, [])
theorem mw_m48 : mj_meth 48 = some mw_M48 := rfl
abbrev mw_M49 : mj_M := (⟨"WivesQuarrels$Folk", "living", "()I"⟩, prog_5_method_8_code, 1, some .int, 0, 3, false, [])
theorem mw_m49 : mj_meth 49 = some mw_M49 := rfl
abbrev mw_M50 : mj_M := (⟨"WivesQuarrels$Folk", "fewestDrawers", "()I"⟩, prog_5_method_33_code, 6, some .int, 0, 3, false, [])
theorem mw_m50 : mj_meth 50 = some mw_M50 := rfl
abbrev mw_M51 : mj_M := (⟨"WivesQuarrels$Folk", "neededWords", "()I"⟩, prog_5_method_30_code, 3, some .int, 0, 3, false, [])
theorem mw_m51 : mj_meth 51 = some mw_M51 := rfl
abbrev mw_M52 : mj_M := (⟨"WivesQuarrels$Folk", "reason", "(I)I"⟩, prog_5_method_20_code, 2, some .int, 1, 3, false, [])
theorem mw_m52 : mj_meth 52 = some mw_M52 := rfl
abbrev mw_M53 : mj_M := (⟨"WivesQuarrels$Folk", "wordsOf", "(I)I"⟩, prog_5_method_32_code, 4, some .int, 1, 3, false, [])
theorem mw_m53 : mj_meth 53 = some mw_M53 := rfl
abbrev mw_M54 : mj_M := (⟨"WivesQuarrels$Folk", "bury", "(I)V"⟩, prog_5_method_39_code, 5, none, 1, 3, false, [])
theorem mw_m54 : mj_meth 54 = some mw_M54 := rfl
abbrev mw_M55 : mj_M := (⟨"WivesQuarrels$Folk", "spouse", "(I)I"⟩, prog_5_method_15_code, 2, some .int, 1, 3, false, [])
theorem mw_m55 : mj_meth 55 = some mw_M55 := rfl
abbrev mw_M56 : mj_M := (⟨"WivesQuarrels$Folk", "inherit", "(II)V"⟩, prog_5_method_40_code, 3, none, 2, 3, false, [])
theorem mw_m56 : mj_meth 56 = some mw_M56 := rfl
abbrev mw_M57 : mj_M := (⟨"WivesQuarrels$Folk", "begin", "(III)V"⟩, prog_5_method_22_code, 4, none, 3, 3, false, [])
theorem mw_m57 : mj_meth 57 = some mw_M57 := rfl
abbrev mw_M58 : mj_M := (⟨"WivesQuarrels$Folk", "canSettle", "(I)Z"⟩, prog_5_method_31_code, 3, some .boolean, 1, 3, false, [])
theorem mw_m58 : mj_meth 58 = some mw_M58 := rfl
abbrev mw_M59 : mj_M := (⟨"WivesQuarrels$Folk", "lives", "(I)Z"⟩, prog_5_method_16_code, 2, some .boolean, 1, 3, false, [])
theorem mw_m59 : mj_meth 59 = some mw_M59 := rfl
abbrev mw_M60 : mj_M := (⟨"WivesQuarrels$Folk", "clear", "()V"⟩, prog_5_method_2_code, 1, none, 0, 3, false, [])
theorem mw_m60 : mj_meth 60 = some mw_M60 := rfl
abbrev mw_M61 : mj_M := (⟨"WivesQuarrels$Folk", "people", "()I"⟩, prog_5_method_7_code, 1, some .int, 0, 3, false, [])
theorem mw_m61 : mj_meth 61 = some mw_M61 := rfl
abbrev mw_M62 : mj_M := (⟨"WivesQuarrels$Folk", "add", "(IIZ)V"⟩, prog_5_method_11_code, 5, none, 3, 3, false, [])
theorem mw_m62 : mj_meth 62 = some mw_M62 := rfl
abbrev mw_M63 : mj_M := (⟨"WivesQuarrels$Folk", "canMarry", "(II)Z"⟩, prog_5_method_34_code, 3, some .boolean, 2, 3, false, [])
theorem mw_m63 : mj_meth 63 = some mw_M63 := rfl
abbrev mw_M64 : mj_M := (⟨"WivesQuarrels$Folk", "isSingle", "(I)Z"⟩, prog_5_method_35_code, 2, some .boolean, 1, 3, false, [])
theorem mw_m64 : mj_meth 64 = some mw_M64 := rfl
abbrev mw_M65 : mj_M := (⟨"WivesQuarrels$Folk", "join", "(II)V"⟩, prog_5_method_36_code, 3, none, 2, 3, false, [])
theorem mw_m65 : mj_meth 65 = some mw_M65 := rfl
abbrev mw_M66 : mj_M := (⟨"WivesQuarrels$Folk", "allHeat", "()I"⟩, prog_5_method_29_code, 3, some .int, 0, 3, false, [])
theorem mw_m66 : mj_meth 66 = some mw_M66 := rfl
abbrev mw_M67 : mj_M := (⟨"WivesQuarrels$Folk", "drawer", "(I)I"⟩, prog_5_method_14_code, 2, some .int, 1, 3, false, [])
theorem mw_m67 : mj_meth 67 = some mw_M67 := rfl
abbrev mw_M68 : mj_M := (⟨"WivesQuarrels$Folk", "isLawyer", "(I)Z"⟩, prog_5_method_17_code, 2, some .boolean, 1, 3, false, [])
theorem mw_m68 : mj_meth 68 = some mw_M68 := rfl
abbrev mw_M69 : mj_M := (⟨"WivesQuarrels$Folk", "heatAround", "(I)I"⟩, prog_5_method_27_code, 4, some .int, 1, 3, false, [])
theorem mw_m69 : mj_meth 69 = some mw_M69 := rfl
abbrev mw_M70 : mj_M := (⟨"WivesQuarrels$Folk", "marry", "(II)V"⟩, prog_5_method_37_code, 3, none, 2, 3, false, [])
theorem mw_m70 : mj_meth 70 = some mw_M70 := rfl
abbrev mw_M71 : mj_M := (⟨"WivesQuarrels$Folk", "canQuarrel", "(II)Z"⟩, prog_5_method_38_code, 3, some .boolean, 2, 3, false, [])
theorem mw_m71 : mj_meth 71 = some mw_M71 := rfl
abbrev mw_M72 : mj_M := (⟨"WivesQuarrels$Folk", "hottest", "()I"⟩, prog_5_method_41_code, 3, some .int, 0, 3, false, [])
theorem mw_m72 : mj_meth 72 = some mw_M72 := rfl
abbrev mw_M73 : mj_M := (⟨"WivesQuarrels$Folk", "mostBitter", "()I"⟩, prog_5_method_42_code, 4, some .int, 0, 3, false, [])
theorem mw_m73 : mj_meth 73 = some mw_M73 := rfl
abbrev mw_M74 : mj_M := (⟨"WivesQuarrels$Folk", "bestMatch", "(I)I"⟩, prog_5_method_45_code, 6, some .int, 1, 3, false, [])
theorem mw_m74 : mj_meth 74 = some mw_M74 := rfl
abbrev mw_M75 : mj_M := (⟨"WivesQuarrels$Folk", "mostCutting", "()I"⟩, prog_5_method_43_code, 4, some .int, 0, 3, false, [])
theorem mw_m75 : mj_meth 75 = some mw_M75 := rfl
abbrev mw_M76 : mj_M := (⟨"WivesQuarrels$Folk", "cutAround", "(I)I"⟩, prog_5_method_44_code, 4, some .int, 1, 3, false, [])
theorem mw_m76 : mj_meth 76 = some mw_M76 := rfl
abbrev mw_M77 : mj_M := (⟨"WivesQuarrels$Folk", "changeNerve", "(II)V"⟩, prog_5_method_13_code, 3, none, 2, 3, false, [])
theorem mw_m77 : mj_meth 77 = some mw_M77 := rfl
abbrev mw_M78 : mj_M := (⟨"WivesQuarrels$Guesses", "<init>", "()V"⟩, prog_7_method_1_code, 1, none, 0, 4, true, [])
theorem mw_m78 : mj_meth 78 = some mw_M78 := rfl
abbrev mw_M79 : mj_M := (⟨"WivesQuarrels$Guesses", "holds", "(LWivesQuarrels$Books;LWivesQuarrels$Rules;I)Z"⟩, prog_7_method_3_code, 6, some .boolean, 3, 4, false, [])
theorem mw_m79 : mj_meth 79 = some mw_M79 := rfl
abbrev mw_M80 : mj_M := (⟨"WivesQuarrels$Guesses", "suppose", "(LWivesQuarrels$Folk;I)V"⟩, prog_7_method_4_code, 3, none, 2, 4, false, [])
theorem mw_m80 : mj_meth 80 = some mw_M80 := rfl
abbrev mw_M81 : mj_M := (⟨"WivesQuarrels$Guesses", "weigh", "(LWivesQuarrels$Books;LWivesQuarrels$Rules;)V"⟩, prog_7_method_2_code, 7, none, 2, 4, false, [])
theorem mw_m81 : mj_meth 81 = some mw_M81 := rfl
abbrev mw_M82 : mj_M := (⟨"WivesQuarrels$Guesses", "howMany", "()I"⟩, prog_7_method_5_code, 3, some .int, 0, 4, false, [])
theorem mw_m82 : mj_meth 82 = some mw_M82 := rfl
abbrev mw_M83 : mj_M := (⟨"WivesQuarrels$Guesses", "first", "()I"⟩, prog_7_method_6_code, 2, some .int, 0, 4, false, [])
theorem mw_m83 : mj_meth 83 = some mw_M83 := rfl
abbrev mw_M84 : mj_M := (⟨"WivesQuarrels$Guesses", "collectHeats", "(LWivesQuarrels$Folk;LWivesQuarrels$Rules;)V"⟩, prog_7_method_7_code, 4, none, 2, 4, false, [])
theorem mw_m84 : mj_meth 84 = some mw_M84 := rfl
abbrev mw_M85 : mj_M := (⟨"WivesQuarrels$Guesses", "noteHeats", "()V"⟩, prog_7_method_8_code, 3, none, 0, 4, false, [])
theorem mw_m85 : mj_meth 85 = some mw_M85 := rfl
abbrev mw_M86 : mj_M := (⟨"WivesQuarrels$Guesses", "mostUnlike", "(LWivesQuarrels$Folk;)I"⟩, prog_7_method_10_code, 4, some .int, 1, 4, false, [])
theorem mw_m86 : mj_meth 86 = some mw_M86 := rfl
abbrev mw_M87 : mj_M := (⟨"WivesQuarrels$Guesses", "unlike", "(I)I"⟩, prog_7_method_9_code, 2, some .int, 1, 4, false, [])
theorem mw_m87 : mj_meth 87 = some mw_M87 := rfl
abbrev mw_M88 : mj_M := (⟨"WivesQuarrels$Reader", "<init>", "()V"⟩, prog_8_method_1_code, 1, none, 0, 5, true, [])
theorem mw_m88 : mj_meth 88 = some mw_M88 := rfl
abbrev mw_M89 : mj_M := (⟨"WivesQuarrels$Reader", "readTown", "([BI)V"⟩, prog_8_method_6_code, 4, none, 2, 5, false, [])
theorem mw_m89 : mj_meth 89 = some mw_M89 := rfl
abbrev mw_M90 : mj_M := (⟨"WivesQuarrels$Reader", "readLine", "()Z"⟩, prog_8_method_9_code, 1, some .boolean, 0, 5, false, [])
theorem mw_m90 : mj_meth 90 = some mw_M90 := rfl
abbrev mw_M91 : mj_M := (⟨"WivesQuarrels$Reader", "readPerson", "(Z)Z"⟩, prog_8_method_11_code, 4, some .boolean, 1, 5, false, [])
theorem mw_m91 : mj_meth 91 = some mw_M91 := rfl
abbrev mw_M92 : mj_M := (⟨"WivesQuarrels$Reader", "refuse", "(I)Z"⟩, prog_8_method_7_code, 2, some .boolean, 1, 5, false, [])
theorem mw_m92 : mj_meth 92 = some mw_M92 := rfl
abbrev mw_M93 : mj_M := (⟨"WivesQuarrels$Reader", "takeNumber", "(II)I"⟩, prog_8_method_10_code, 4, some .int, 2, 5, false, [])
theorem mw_m93 : mj_meth 93 = some mw_M93 := rfl
abbrev mw_M94 : mj_M := (⟨"WivesQuarrels$Reader", "readWed", "()Z"⟩, prog_8_method_13_code, 3, some .boolean, 0, 5, false, [])
theorem mw_m94 : mj_meth 94 = some mw_M94 := rfl
abbrev mw_M95 : mj_M := (⟨"WivesQuarrels$Reader", "lookAtPerson", "()I"⟩, prog_8_method_12_code, 1, some .int, 0, 5, false, [])
theorem mw_m95 : mj_meth 95 = some mw_M95 := rfl
abbrev mw_M96 : mj_M := (⟨"WivesQuarrels$Reader", "readQuarrel", "()Z"⟩, prog_8_method_14_code, 6, some .boolean, 0, 5, false, [])
theorem mw_m96 : mj_meth 96 = some mw_M96 := rfl
abbrev mw_M97 : mj_M := (⟨"WivesQuarrels$Reader", "readHeats", "()Z"⟩, prog_8_method_15_code, 2, some .boolean, 0, 5, false, [])
theorem mw_m97 : mj_meth 97 = some mw_M97 := rfl
abbrev mw_M98 : mj_M := (⟨"WivesQuarrels$Reader", "readExpr", "(I)Z"⟩, prog_8_method_17_code, 4, some .boolean, 1, 5, false, [])
theorem mw_m98 : mj_meth 98 = some mw_M98 := rfl
abbrev mw_M99 : mj_M := (⟨"WivesQuarrels$Reader", "readAnd", "(I)Z"⟩, prog_8_method_18_code, 4, some .boolean, 1, 5, false, [])
theorem mw_m99 : mj_meth 99 = some mw_M99 := rfl
abbrev mw_M100 : mj_M := (⟨"WivesQuarrels$Reader", "readNot", "(I)Z"⟩, prog_8_method_19_code, 5, some .boolean, 1, 5, false, [])
theorem mw_m100 : mj_meth 100 = some mw_M100 := rfl
abbrev mw_M101 : mj_M := (⟨"WivesQuarrels$Reader", "readTest", "(I)Z"⟩, prog_8_method_20_code, 4, some .boolean, 1, 5, false, [])
theorem mw_m101 : mj_meth 101 = some mw_M101 := rfl
abbrev mw_M102 : mj_M := (⟨"WivesQuarrels$Reader", "readSum", "(I)Z"⟩, prog_8_method_21_code, 5, some .boolean, 1, 5, false, [])
theorem mw_m102 : mj_meth 102 = some mw_M102 := rfl
abbrev mw_M103 : mj_M := (⟨"WivesQuarrels$Reader", "readProduct", "(I)Z"⟩, prog_8_method_22_code, 5, some .boolean, 1, 5, false, [])
theorem mw_m103 : mj_meth 103 = some mw_M103 := rfl
abbrev mw_M104 : mj_M := (⟨"WivesQuarrels$Reader", "readPart", "(I)Z"⟩, prog_8_method_23_code, 2, some .boolean, 1, 5, false, [])
theorem mw_m104 : mj_meth 104 = some mw_M104 := rfl
abbrev mw_M105 : mj_M := (⟨"WivesQuarrels$Reader", "readCuts", "()Z"⟩, prog_8_method_16_code, 2, some .boolean, 0, 5, false, [])
theorem mw_m105 : mj_meth 105 = some mw_M105 := rfl
abbrev mw_M106 : mj_M := (⟨"WivesQuarrels$Reader", "take", "(I)Z"⟩, prog_8_method_8_code, 2, some .boolean, 1, 5, false, [])
theorem mw_m106 : mj_meth 106 = some mw_M106 := rfl
abbrev mw_M107 : mj_M := (⟨"WivesQuarrels$Reader", "place", "()I"⟩, prog_8_method_5_code, 1, some .int, 0, 5, false, [])
theorem mw_m107 : mj_meth 107 = some mw_M107 := rfl
abbrev mw_M108 : mj_M := (⟨"WivesQuarrels$Reader", "found", "()I"⟩, prog_8_method_4_code, 1, some .int, 0, 5, false, [])
theorem mw_m108 : mj_meth 108 = some mw_M108 := rfl
abbrev mw_M109 : mj_M := (⟨"WivesQuarrels$Reader", "folk", "()LWivesQuarrels$Folk;"⟩, prog_8_method_2_code, 1, some (.object "WivesQuarrels$Folk"), 0, 5, false, [])
theorem mw_m109 : mj_meth 109 = some mw_M109 := rfl
abbrev mw_M110 : mj_M := (⟨"WivesQuarrels$Reader", "rules", "()LWivesQuarrels$Rules;"⟩, prog_8_method_3_code, 1, some (.object "WivesQuarrels$Rules"), 0, 5, false, [])
theorem mw_m110 : mj_meth 110 = some mw_M110 := rfl
abbrev mw_M111 : mj_M := (⟨"WivesQuarrels$Rules", "<init>", "()V"⟩, prog_9_method_1_code, 1, none, 0, 6, true, [])
theorem mw_m111 : mj_meth 111 = some mw_M111 := rfl
abbrev mw_M112 : mj_M := (⟨"WivesQuarrels$Rules", "letPass", "(LWivesQuarrels$Folk;I)V"⟩, prog_9_method_11_code, 5, none, 2, 6, false, [])
theorem mw_m112 : mj_meth 112 = some mw_M112 := rfl
abbrev mw_M113 : mj_M := (⟨"WivesQuarrels$Rules", "letWork", "(LWivesQuarrels$Folk;I)V"⟩, prog_9_method_12_code, 4, none, 2, 6, false, [])
theorem mw_m113 : mj_meth 113 = some mw_M113 := rfl
abbrev mw_M114 : mj_M := (⟨"WivesQuarrels$Rules", "setValues", "(LWivesQuarrels$Folk;I)V"⟩, prog_9_method_16_code, 5, none, 2, 6, false, [])
theorem mw_m114 : mj_meth 114 = some mw_M114 := rfl
abbrev mw_M115 : mj_M := (⟨"WivesQuarrels$Rules", "change", "()I"⟩, prog_9_method_14_code, 1, some .int, 0, 6, false, [])
theorem mw_m115 : mj_meth 115 = some mw_M115 := rfl
abbrev mw_M116 : mj_M := (⟨"WivesQuarrels$Rules", "hasHeats", "()Z"⟩, prog_9_method_4_code, 1, some .boolean, 0, 6, false, [])
theorem mw_m116 : mj_meth 116 = some mw_M116 := rfl
abbrev mw_M117 : mj_M := (⟨"WivesQuarrels$Rules", "worth", "(II)I"⟩, prog_9_method_17_code, 6, some .int, 2, 6, false, [])
theorem mw_m117 : mj_meth 117 = some mw_M117 := rfl
abbrev mw_M118 : mj_M := (⟨"WivesQuarrels$Rules", "joined", "(III)I"⟩, prog_9_method_18_code, 3, some .int, 3, 6, false, [])
theorem mw_m118 : mj_meth 118 = some mw_M118 := rfl
abbrev mw_M119 : mj_M := (⟨"WivesQuarrels$Rules", "cutsNow", "()Z"⟩, prog_9_method_15_code, 1, some .boolean, 0, 6, false, [])
theorem mw_m119 : mj_meth 119 = some mw_M119 := rfl
abbrev mw_M120 : mj_M := (⟨"WivesQuarrels$Rules", "hasCuts", "()Z"⟩, prog_9_method_5_code, 1, some .boolean, 0, 6, false, [])
theorem mw_m120 : mj_meth 120 = some mw_M120 := rfl
abbrev mw_M121 : mj_M := (⟨"WivesQuarrels$Rules", "clear", "()V"⟩, prog_9_method_2_code, 1, none, 0, 6, false, [])
theorem mw_m121 : mj_meth 121 = some mw_M121 := rfl
abbrev mw_M122 : mj_M := (⟨"WivesQuarrels$Rules", "beginHeats", "()V"⟩, prog_9_method_6_code, 1, none, 0, 6, false, [])
theorem mw_m122 : mj_meth 122 = some mw_M122 := rfl
abbrev mw_M123 : mj_M := (⟨"WivesQuarrels$Rules", "add", "(I)V"⟩, prog_9_method_10_code, 2, none, 1, 6, false, [])
theorem mw_m123 : mj_meth 123 = some mw_M123 := rfl
abbrev mw_M124 : mj_M := (⟨"WivesQuarrels$Rules", "endHeats", "()V"⟩, prog_9_method_7_code, 1, none, 0, 6, false, [])
theorem mw_m124 : mj_meth 124 = some mw_M124 := rfl
abbrev mw_M125 : mj_M := (⟨"WivesQuarrels$Rules", "beginCuts", "()V"⟩, prog_9_method_8_code, 1, none, 0, 6, false, [])
theorem mw_m125 : mj_meth 125 = some mw_M125 := rfl
abbrev mw_M126 : mj_M := (⟨"WivesQuarrels$Rules", "endCuts", "()V"⟩, prog_9_method_9_code, 1, none, 0, 6, false, [])
theorem mw_m126 : mj_meth 126 = some mw_M126 := rfl
abbrev mw_M127 : mj_M := (⟨"WivesQuarrels$Rules", "copyFrom", "(LWivesQuarrels$Rules;)V"⟩, prog_9_method_3_code, 2, none, 1, 6, false, [])
theorem mw_m127 : mj_meth 127 = some mw_M127 := rfl
abbrev mw_M128 : mj_M := (⟨"WivesQuarrels$Rules", "wouldCut", "(LWivesQuarrels$Folk;I)Z"⟩, prog_9_method_13_code, 3, some .boolean, 2, 6, false, [])
theorem mw_m128 : mj_meth 128 = some mw_M128 := rfl
abbrev mw_M129 : mj_M := (⟨"WivesQuarrels$Tokens", "<init>", "()V"⟩, prog_10_method_1_code, 1, none, 0, 7, true, [])
theorem mw_m129 : mj_meth 129 = some mw_M129 := rfl
abbrev mw_M130 : mj_M := (⟨"WivesQuarrels$Tokens", "open", "([BI)V"⟩, prog_10_method_2_code, 3, none, 2, 7, false, [])
theorem mw_m130 : mj_meth 130 = some mw_M130 := rfl
abbrev mw_M131 : mj_M := (⟨"WivesQuarrels$Tokens", "advance", "()V"⟩, prog_10_method_9_code, 1, none, 0, 7, false, [])
theorem mw_m131 : mj_meth 131 = some mw_M131 := rfl
abbrev mw_M132 : mj_M := (⟨"WivesQuarrels$Tokens", "readWord", "()V"⟩, prog_10_method_12_code, 4, none, 0, 7, false, [])
theorem mw_m132 : mj_meth 132 = some mw_M132 := rfl
abbrev mw_M133 : mj_M := (⟨"WivesQuarrels$Tokens", "readNumber", "()V"⟩, prog_10_method_11_code, 1, none, 0, 7, false, [])
theorem mw_m133 : mj_meth 133 = some mw_M133 := rfl
abbrev mw_M134 : mj_M := (⟨"WivesQuarrels$Tokens", "readSign", "()V"⟩, prog_10_method_10_code, 2, none, 0, 7, false, [])
theorem mw_m134 : mj_meth 134 = some mw_M134 := rfl
abbrev mw_M135 : mj_M := (⟨"WivesQuarrels$Tokens", "kind", "()I"⟩, prog_10_method_3_code, 1, some .int, 0, 7, false, [])
theorem mw_m135 : mj_meth 135 = some mw_M135 := rfl
abbrev mw_M136 : mj_M := (⟨"WivesQuarrels$Tokens", "start", "()I"⟩, prog_10_method_4_code, 1, some .int, 0, 7, false, [])
theorem mw_m136 : mj_meth 136 = some mw_M136 := rfl
abbrev mw_M137 : mj_M := (⟨"WivesQuarrels$Tokens", "number", "()I"⟩, prog_10_method_5_code, 1, some .int, 0, 7, false, [])
theorem mw_m137 : mj_meth 137 = some mw_M137 := rfl
abbrev mw_M138 : mj_M := (⟨"WivesQuarrels$Tokens", "hasTooManyDigits", "()Z"⟩, prog_10_method_6_code, 1, some .boolean, 0, 7, false, [])
theorem mw_m138 : mj_meth 138 = some mw_M138 := rfl
abbrev mw_M139 : mj_M := (⟨"WivesQuarrels$Tokens", "isWord", "()Z"⟩, prog_10_method_7_code, 1, some .boolean, 0, 7, false, [])
theorem mw_m139 : mj_meth 139 = some mw_M139 := rfl
abbrev mw_M140 : mj_M := (⟨"WivesQuarrels$Tokens", "isValue", "()Z"⟩, prog_10_method_8_code, 1, some .boolean, 0, 7, false, [])
theorem mw_m140 : mj_meth 140 = some mw_M140 := rfl
abbrev mw_M141 : mj_M := (⟨"WivesQuarrels", "<init>", "()V"⟩, prog_1_method_1_code, 1, none, 0, 8, true, [])
theorem mw_m141 : mj_meth 141 = some mw_M141 := rfl
abbrev mw_M142 : mj_M := (⟨"WivesQuarrels", "feed", "(IIIII)I"⟩, prog_1_method_2_code, 6, some .int, 5, 8, false, [])
theorem mw_m142 : mj_meth 142 = some mw_M142 := rfl
abbrev mw_M143 : mj_M := (⟨"WivesQuarrels", "write", "(I)V"⟩, prog_1_method_3_code, 3, none, 1, 8, false, [])
theorem mw_m143 : mj_meth 143 = some mw_M143 := rfl
abbrev mw_M144 : mj_M := (⟨"WivesQuarrels", "fault", "()I"⟩, prog_1_method_5_code, 1, some .int, 0, 8, false, [])
theorem mw_m144 : mj_meth 144 = some mw_M144 := rfl
abbrev mw_M145 : mj_M := (⟨"WivesQuarrels", "weeks", "(I)I"⟩, prog_1_method_9_code, 3, some .int, 1, 8, false, [])
theorem mw_m145 : mj_meth 145 = some mw_M145 := rfl
abbrev mw_M146 : mj_M := (⟨"WivesQuarrels", "undo", "()I"⟩, prog_1_method_14_code, 1, some .int, 0, 8, false, [])
theorem mw_m146 : mj_meth 146 = some mw_M146 := rfl
abbrev mw_M147 : mj_M := (⟨"WivesQuarrels", "peace", "()I"⟩, prog_1_method_17_code, 2, some .int, 0, 8, false, [])
theorem mw_m147 : mj_meth 147 = some mw_M147 := rfl
abbrev mw_M148 : mj_M := (⟨"WivesQuarrels", "camps", "()I"⟩, prog_1_method_20_code, 1, some .int, 0, 8, false, [])
theorem mw_m148 : mj_meth 148 = some mw_M148 := rfl
abbrev mw_M149 : mj_M := (⟨"WivesQuarrels", "isIn", "(II)Z"⟩, prog_1_method_52_code, 2, some .boolean, 2, 8, false, [])
theorem mw_m149 : mj_meth 149 = some mw_M149 := rfl
abbrev mw_M150 : mj_M := (⟨"WivesQuarrels", "drawers", "()I"⟩, prog_1_method_22_code, 1, some .int, 0, 8, false, [])
theorem mw_m150 : mj_meth 150 = some mw_M150 := rfl
abbrev mw_M151 : mj_M := (⟨"WivesQuarrels", "deaths", "()I"⟩, prog_1_method_23_code, 5, some .int, 0, 8, false, [])
theorem mw_m151 : mj_meth 151 = some mw_M151 := rfl
abbrev mw_M152 : mj_M := (⟨"WivesQuarrels", "bringsPeace", "(I)Z"⟩, prog_1_method_24_code, 3, some .boolean, 1, 8, false, [])
theorem mw_m152 : mj_meth 152 = some mw_M152 := rfl
abbrev mw_M153 : mj_M := (⟨"WivesQuarrels", "pairOf", "(II)I"⟩, prog_1_method_51_code, 4, some .int, 2, 8, false, [])
theorem mw_m153 : mj_meth 153 = some mw_M153 := rfl
abbrev mw_M154 : mj_M := (⟨"WivesQuarrels", "ready", "()I"⟩, prog_1_method_28_code, 4, some .int, 0, 8, false, [])
theorem mw_m154 : mj_meth 154 = some mw_M154 := rfl
abbrev mw_M155 : mj_M := (⟨"WivesQuarrels", "mildest", "()I"⟩, prog_1_method_29_code, 5, some .int, 0, 8, false, [])
theorem mw_m155 : mj_meth 155 = some mw_M155 := rfl
abbrev mw_M156 : mj_M := (⟨"WivesQuarrels", "triples", "()I"⟩, prog_1_method_31_code, 1, some .int, 0, 8, false, [])
theorem mw_m156 : mj_meth 156 = some mw_M156 := rfl
abbrev mw_M157 : mj_M := (⟨"WivesQuarrels", "alone", "()I"⟩, prog_1_method_32_code, 1, some .int, 0, 8, false, [])
theorem mw_m157 : mj_meth 157 = some mw_M157 := rfl
abbrev mw_M158 : mj_M := (⟨"WivesQuarrels", "single", "()I"⟩, prog_1_method_35_code, 4, some .int, 0, 8, false, [])
theorem mw_m158 : mj_meth 158 = some mw_M158 := rfl
abbrev mw_M159 : mj_M := (⟨"WivesQuarrels", "cuts", "()I"⟩, prog_1_method_36_code, 4, some .int, 0, 8, false, [])
theorem mw_m159 : mj_meth 159 = some mw_M159 := rfl
abbrev mw_M160 : mj_M := (⟨"WivesQuarrels", "forget", "()V"⟩, prog_1_method_40_code, 1, none, 0, 8, false, [])
theorem mw_m160 : mj_meth 160 = some mw_M160 := rfl
abbrev mw_M161 : mj_M := (⟨"WivesQuarrels", "image", "()V"⟩, prog_1_method_43_code, 1, none, 0, 8, false, [])
theorem mw_m161 : mj_meth 161 = some mw_M161 := rfl
abbrev mw_M162 : mj_M := (⟨"WivesQuarrels", "restore", "()Z"⟩, prog_1_method_44_code, 1, some .boolean, 0, 8, false, [])
theorem mw_m162 : mj_meth 162 = some mw_M162 := rfl
abbrev mw_M163 : mj_M := (⟨"WivesQuarrels", "town", "(I)I"⟩, prog_1_method_4_code, 2, some .int, 1, 8, false, [])
theorem mw_m163 : mj_meth 163 = some mw_M163 := rfl
abbrev mw_M164 : mj_M := (⟨"WivesQuarrels", "count", "(I)I"⟩, prog_1_method_6_code, 3, some .int, 1, 8, false, [])
theorem mw_m164 : mj_meth 164 = some mw_M164 := rfl
abbrev mw_M165 : mj_M := (⟨"WivesQuarrels", "person", "(II)I"⟩, prog_1_method_7_code, 4, some .int, 2, 8, false, [])
theorem mw_m165 : mj_meth 165 = some mw_M165 := rfl
abbrev mw_M166 : mj_M := (⟨"WivesQuarrels", "mustBePerson", "(I)V"⟩, prog_1_method_45_code, 2, none, 1, 8, false, [])
theorem mw_m166 : mj_meth 166 = some mw_M166 := rfl
abbrev mw_M167 : mj_M := (⟨"WivesQuarrels", "quarrel", "(III)I"⟩, prog_1_method_8_code, 6, some .int, 3, 8, false, [])
theorem mw_m167 : mj_meth 167 = some mw_M167 := rfl
abbrev mw_M168 : mj_M := (⟨"WivesQuarrels", "mustBePeople", "(II)V"⟩, prog_1_method_46_code, 3, none, 2, 8, false, [])
theorem mw_m168 : mj_meth 168 = some mw_M168 := rfl
abbrev mw_M169 : mj_M := (⟨"WivesQuarrels", "mustBeWhat", "(II)V"⟩, prog_1_method_47_code, 2, none, 2, 8, false, [])
theorem mw_m169 : mj_meth 169 = some mw_M169 := rfl
abbrev mw_M170 : mj_M := (⟨"WivesQuarrels", "die", "(I)I"⟩, prog_1_method_10_code, 3, some .int, 1, 8, false, [])
theorem mw_m170 : mj_meth 170 = some mw_M170 := rfl
abbrev mw_M171 : mj_M := (⟨"WivesQuarrels", "wed", "(II)Z"⟩, prog_1_method_11_code, 4, some .boolean, 2, 8, false, [])
theorem mw_m171 : mj_meth 171 = some mw_M171 := rfl
abbrev mw_M172 : mj_M := (⟨"WivesQuarrels", "settle", "(II)I"⟩, prog_1_method_12_code, 6, some .int, 2, 8, false, [])
theorem mw_m172 : mj_meth 172 = some mw_M172 := rfl
abbrev mw_M173 : mj_M := (⟨"WivesQuarrels", "pick", "(IIII)I"⟩, prog_1_method_13_code, 7, some .int, 4, 8, false, [])
theorem mw_m173 : mj_meth 173 = some mw_M173 := rfl
abbrev mw_M174 : mj_M := (⟨"WivesQuarrels", "then", "(IIII)I"⟩, prog_1_method_15_code, 7, some .int, 4, 8, false, [])
theorem mw_m174 : mj_meth 174 = some mw_M174 := rfl
abbrev mw_M175 : mj_M := (⟨"WivesQuarrels", "mustBeWeeksAhead", "(I)V"⟩, prog_1_method_48_code, 1, none, 1, 8, false, [])
theorem mw_m175 : mj_meth 175 = some mw_M175 := rfl
abbrev mw_M176 : mj_M := (⟨"WivesQuarrels", "behind", "(I)LWivesQuarrels$Folk;"⟩, prog_1_method_49_code, 2, some (.object "WivesQuarrels$Folk"), 1, 8, false, [])
theorem mw_m176 : mj_meth 176 = some mw_M176 := rfl
abbrev mw_M177 : mj_M := (⟨"WivesQuarrels", "over", "(II)I"⟩, prog_1_method_16_code, 5, some .int, 2, 8, false, [])
theorem mw_m177 : mj_meth 177 = some mw_M177 := rfl
abbrev mw_M178 : mj_M := (⟨"WivesQuarrels", "later", "(II)I"⟩, prog_1_method_18_code, 4, some .int, 2, 8, false, [])
theorem mw_m178 : mj_meth 178 = some mw_M178 := rfl
abbrev mw_M179 : mj_M := (⟨"WivesQuarrels", "nameOf", "(I)I"⟩, prog_1_method_50_code, 1, some .int, 1, 8, false, [])
theorem mw_m179 : mj_meth 179 = some mw_M179 := rfl
abbrev mw_M180 : mj_M := (⟨"WivesQuarrels", "comesInto", "(II)I"⟩, prog_1_method_19_code, 5, some .int, 2, 8, false, [])
theorem mw_m180 : mj_meth 180 = some mw_M180 := rfl
abbrev mw_M181 : mj_M := (⟨"WivesQuarrels", "between", "(II)I"⟩, prog_1_method_21_code, 3, some .int, 2, 8, false, [])
theorem mw_m181 : mj_meth 181 = some mw_M181 := rfl
abbrev mw_M182 : mj_M := (⟨"WivesQuarrels", "friends", "(I)I"⟩, prog_1_method_25_code, 2, some .int, 1, 8, false, [])
theorem mw_m182 : mj_meth 182 = some mw_M182 := rfl
abbrev mw_M183 : mj_M := (⟨"WivesQuarrels", "spared", "(I)I"⟩, prog_1_method_26_code, 3, some .int, 1, 8, false, [])
theorem mw_m183 : mj_meth 183 = some mw_M183 := rfl
abbrev mw_M184 : mj_M := (⟨"WivesQuarrels", "match", "(I)I"⟩, prog_1_method_27_code, 2, some .int, 1, 8, false, [])
theorem mw_m184 : mj_meth 184 = some mw_M184 := rfl
abbrev mw_M185 : mj_M := (⟨"WivesQuarrels", "coldest", "(I)I"⟩, prog_1_method_30_code, 2, some .int, 1, 8, false, [])
theorem mw_m185 : mj_meth 185 = some mw_M185 := rfl
abbrev mw_M186 : mj_M := (⟨"WivesQuarrels", "foes", "(II)I"⟩, prog_1_method_33_code, 4, some .int, 2, 8, false, [])
theorem mw_m186 : mj_meth 186 = some mw_M186 := rfl
abbrev mw_M187 : mj_M := (⟨"WivesQuarrels", "word", "(I)I"⟩, prog_1_method_34_code, 5, some .int, 1, 8, false, [])
theorem mw_m187 : mj_meth 187 = some mw_M187 := rfl
abbrev mw_M188 : mj_M := (⟨"WivesQuarrels", "see", "(IIII)I"⟩, prog_1_method_37_code, 6, some .int, 4, 8, false, [])
theorem mw_m188 : mj_meth 188 = some mw_M188 := rfl
abbrev mw_M189 : mj_M := (⟨"WivesQuarrels", "nerved", "(I)I"⟩, prog_1_method_38_code, 2, some .int, 1, 8, false, [])
theorem mw_m189 : mj_meth 189 = some mw_M189 := rfl
abbrev mw_M190 : mj_M := (⟨"WivesQuarrels", "look", "(I)I"⟩, prog_1_method_39_code, 3, some .int, 1, 8, false, [])
theorem mw_m190 : mj_meth 190 = some mw_M190 := rfl
abbrev mw_M191 : mj_M := (⟨"WivesQuarrels", "game", "(III)I"⟩, prog_1_method_41_code, 6, some .int, 3, 8, false, [])
theorem mw_m191 : mj_meth 191 = some mw_M191 := rfl
abbrev mw_M192 : mj_M := (⟨"WivesQuarrels", "years", "(III)I"⟩, prog_1_method_42_code, 4, some .int, 3, 8, false, [])
theorem mw_m192 : mj_meth 192 = some mw_M192 := rfl
abbrev mw_M193 : mj_M := (⟨"WivesQuarrelsModel", "<init>", "()V"⟩, prog_12_method_1_code, 1, none, 0, 9, true, [])
theorem mw_m193 : mj_meth 193 = some mw_M193 := rfl
abbrev mw_M194 : mj_M := (⟨"WivesQuarrelsModel", "thrown", "()I"⟩, prog_12_method_2_code, 1, some .int, 0, 9, false, [])
theorem mw_m194 : mj_meth 194 = some mw_M194 := rfl
abbrev mw_M195 : mj_M := (⟨"WivesQuarrelsModel", "feed", "(IIIII)I"⟩, prog_12_method_10_code, 8, some .int, 5, 9, false, [])
theorem mw_m195 : mj_meth 195 = some mw_M195 := rfl
abbrev mw_M196 : mj_M := (⟨"WivesQuarrelsModel", "town", "(I)I"⟩, prog_12_method_35_code, 3, some .int, 1, 9, false, [])
theorem mw_m196 : mj_meth 196 = some mw_M196 := rfl
abbrev mw_M197 : mj_M := (⟨"WivesQuarrelsModel", "fail", "(I)I"⟩, prog_12_method_3_code, 2, some .int, 1, 9, false, [])
theorem mw_m197 : mj_meth 197 = some mw_M197 := rfl
abbrev mw_M198 : mj_M := (⟨"WivesQuarrelsModel", "stepOn", "()V"⟩, prog_12_method_15_code, 2, none, 0, 9, false, [])
theorem mw_m198 : mj_meth 198 = some mw_M198 := rfl
abbrev mw_M199 : mj_M := (⟨"WivesQuarrelsModel", "byteAt", "(I)I"⟩, prog_12_method_11_code, 2, some .int, 1, 9, false, [])
theorem mw_m199 : mj_meth 199 = some mw_M199 := rfl
abbrev mw_M200 : mj_M := (⟨"WivesQuarrelsModel", "isLetter", "(I)Z"⟩, prog_12_method_12_code, 1, some .boolean, 1, 9, false, [])
theorem mw_m200 : mj_meth 200 = some mw_M200 := rfl
abbrev mw_M201 : mj_M := (⟨"WivesQuarrelsModel", "isDigit", "(I)Z"⟩, prog_12_method_13_code, 1, some .boolean, 1, 9, false, [])
theorem mw_m201 : mj_meth 201 = some mw_M201 := rfl
abbrev mw_M202 : mj_M := (⟨"WivesQuarrelsModel", "isMark", "(I)Z"⟩, prog_12_method_14_code, 1, some .boolean, 1, 9, false, [])
theorem mw_m202 : mj_meth 202 = some mw_M202 := rfl
abbrev mw_M203 : mj_M := (⟨"WivesQuarrelsModel", "readLine", "(I)I"⟩, prog_12_method_34_code, 4, some .int, 1, 9, false, [])
theorem mw_m203 : mj_meth 203 = some mw_M203 := rfl
abbrev mw_M204 : mj_M := (⟨"WivesQuarrelsModel", "which", "([Ljava/lang/String;)I"⟩, prog_12_method_18_code, 3, some .int, 1, 9, false, [])
theorem mw_m204 : mj_meth 204 = some mw_M204 := rfl
abbrev mw_M205 : mj_M := (⟨"WivesQuarrelsModel", "is", "(Ljava/lang/String;)Z"⟩, prog_12_method_17_code, 4, some .boolean, 1, 9, false, [])
theorem mw_m205 : mj_meth 205 = some mw_M205 := rfl
abbrev mw_M206 : mj_M := (⟨"WivesQuarrelsModel", "wrong", "(I)V"⟩, prog_12_method_16_code, 2, none, 1, 9, false, [])
theorem mw_m206 : mj_meth 206 = some mw_M206 := rfl
abbrev mw_M207 : mj_M := (⟨"WivesQuarrelsModel", "readExpression", "(I)V"⟩, prog_12_method_30_code, 3, none, 1, 9, false, [])
theorem mw_m207 : mj_meth 207 = some mw_M207 := rfl
abbrev mw_M208 : mj_M := (⟨"WivesQuarrelsModel", "isMarked", "(I)Z"⟩, prog_12_method_19_code, 2, some .boolean, 1, 9, false, [])
theorem mw_m208 : mj_meth 208 = some mw_M208 := rfl
abbrev mw_M209 : mj_M := (⟨"WivesQuarrelsModel", "readAnd", "(I)V"⟩, prog_12_method_29_code, 2, none, 1, 9, false, [])
theorem mw_m209 : mj_meth 209 = some mw_M209 := rfl
abbrev mw_M210 : mj_M := (⟨"WivesQuarrelsModel", "readNot", "(I)V"⟩, prog_12_method_28_code, 4, none, 1, 9, false, [])
theorem mw_m210 : mj_meth 210 = some mw_M210 := rfl
abbrev mw_M211 : mj_M := (⟨"WivesQuarrelsModel", "readSum", "(I)V"⟩, prog_12_method_27_code, 3, none, 1, 9, false, [])
theorem mw_m211 : mj_meth 211 = some mw_M211 := rfl
abbrev mw_M212 : mj_M := (⟨"WivesQuarrelsModel", "readProduct", "(I)V"⟩, prog_12_method_26_code, 3, none, 1, 9, false, [])
theorem mw_m212 : mj_meth 212 = some mw_M212 := rfl
abbrev mw_M213 : mj_M := (⟨"WivesQuarrelsModel", "readPart", "(I)V"⟩, prog_12_method_25_code, 3, none, 1, 9, false, [])
theorem mw_m213 : mj_meth 213 = some mw_M213 := rfl
abbrev mw_M214 : mj_M := (⟨"WivesQuarrelsModel", "readNumber", "(II)I"⟩, prog_12_method_22_code, 4, some .int, 2, 9, false, [])
theorem mw_m214 : mj_meth 214 = some mw_M214 := rfl
abbrev mw_M215 : mj_M := (⟨"WivesQuarrelsModel", "numberNow", "(II)I"⟩, prog_12_method_21_code, 3, some .int, 2, 9, false, [])
theorem mw_m215 : mj_meth 215 = some mw_M215 := rfl
abbrev mw_M216 : mj_M := (⟨"WivesQuarrelsModel", "lay", "(I)V"⟩, prog_12_method_24_code, 4, none, 1, 9, false, [])
theorem mw_m216 : mj_meth 216 = some mw_M216 := rfl
abbrev mw_M217 : mj_M := (⟨"WivesQuarrelsModel", "mark", "(I)V"⟩, prog_12_method_20_code, 2, none, 1, 9, false, [])
theorem mw_m217 : mj_meth 217 = some mw_M217 := rfl
abbrev mw_M218 : mj_M := (⟨"WivesQuarrelsModel", "sayPerson", "(I)V"⟩, prog_12_method_31_code, 3, none, 1, 9, false, [])
theorem mw_m218 : mj_meth 218 = some mw_M218 := rfl
abbrev mw_M219 : mj_M := (⟨"WivesQuarrelsModel", "sayWed", "()V"⟩, prog_12_method_32_code, 3, none, 0, 9, false, [])
theorem mw_m219 : mj_meth 219 = some mw_M219 := rfl
abbrev mw_M220 : mj_M := (⟨"WivesQuarrelsModel", "personNow", "()I"⟩, prog_12_method_23_code, 2, some .int, 0, 9, false, [])
theorem mw_m220 : mj_meth 220 = some mw_M220 := rfl
abbrev mw_M221 : mj_M := (⟨"WivesQuarrelsModel", "sayQuarrel", "()V"⟩, prog_12_method_33_code, 3, none, 0, 9, false, [])
theorem mw_m221 : mj_meth 221 = some mw_M221 := rfl
abbrev mw_M222 : mj_M := (⟨"WivesQuarrelsModel", "pairOf", "(II)I"⟩, prog_12_method_9_code, 2, some .int, 2, 9, false, [])
theorem mw_m222 : mj_meth 222 = some mw_M222 := rfl
abbrev mw_M223 : mj_M := (⟨"WivesQuarrelsModel", "takeOver", "()V"⟩, prog_12_method_37_code, 3, none, 0, 9, false, [])
theorem mw_m223 : mj_meth 223 = some mw_M223 := rfl
abbrev mw_M224 : mj_M := (⟨"WivesQuarrelsModel", "takeHalf", "([I)V"⟩, prog_12_method_36_code, 2, none, 1, 9, false, [])
theorem mw_m224 : mj_meth 224 = some mw_M224 := rfl
abbrev mw_M225 : mj_M := (⟨"WivesQuarrelsModel", "fault", "()I"⟩, prog_12_method_38_code, 1, some .int, 0, 9, false, [])
theorem mw_m225 : mj_meth 225 = some mw_M225 := rfl
abbrev mw_M226 : mj_M := (⟨"WivesQuarrelsModel", "count", "(I)I"⟩, prog_12_method_66_code, 2, some .int, 1, 9, false, [])
theorem mw_m226 : mj_meth 226 = some mw_M226 := rfl
abbrev mw_M227 : mj_M := (⟨"WivesQuarrelsModel", "manyNow", "()I"⟩, prog_12_method_44_code, 3, some .int, 0, 9, false, [])
theorem mw_m227 : mj_meth 227 = some mw_M227 := rfl
abbrev mw_M228 : mj_M := (⟨"WivesQuarrelsModel", "withWhom", "(I)I"⟩, prog_12_method_42_code, 4, some .int, 1, 9, false, [])
theorem mw_m228 : mj_meth 228 = some mw_M228 := rfl
abbrev mw_M229 : mj_M := (⟨"WivesQuarrelsModel", "quarrels", "(II)Z"⟩, prog_12_method_41_code, 3, some .boolean, 2, 9, false, [])
theorem mw_m229 : mj_meth 229 = some mw_M229 := rfl
abbrev mw_M230 : mj_M := (⟨"WivesQuarrelsModel", "bitsOf", "(I)I"⟩, prog_12_method_7_code, 3, some .int, 1, 9, false, [])
theorem mw_m230 : mj_meth 230 = some mw_M230 := rfl
abbrev mw_M231 : mj_M := (⟨"WivesQuarrelsModel", "allHeat", "()I"⟩, prog_12_method_45_code, 3, some .int, 0, 9, false, [])
theorem mw_m231 : mj_meth 231 = some mw_M231 := rfl
abbrev mw_M232 : mj_M := (⟨"WivesQuarrelsModel", "heatOf", "(I)I"⟩, prog_12_method_43_code, 4, some .int, 1, 9, false, [])
theorem mw_m232 : mj_meth 232 = some mw_M232 := rfl
abbrev mw_M233 : mj_M := (⟨"WivesQuarrelsModel", "needed", "()I"⟩, prog_12_method_62_code, 3, some .int, 0, 9, false, [])
theorem mw_m233 : mj_meth 233 = some mw_M233 := rfl
abbrev mw_M234 : mj_M := (⟨"WivesQuarrelsModel", "tables", "()I"⟩, prog_12_method_65_code, 3, some .int, 0, 9, false, [])
theorem mw_m234 : mj_meth 234 = some mw_M234 := rfl
abbrev mw_M235 : mj_M := (⟨"WivesQuarrelsModel", "isQuiet", "(I)Z"⟩, prog_12_method_63_code, 4, some .boolean, 1, 9, false, [])
theorem mw_m235 : mj_meth 235 = some mw_M235 := rfl
abbrev mw_M236 : mj_M := (⟨"WivesQuarrelsModel", "isOf", "(II)Z"⟩, prog_12_method_6_code, 2, some .boolean, 2, 9, false, [])
theorem mw_m236 : mj_meth 236 = some mw_M236 := rfl
abbrev mw_M237 : mj_M := (⟨"WivesQuarrelsModel", "mostAsked", "()I"⟩, prog_12_method_64_code, 3, some .int, 0, 9, false, [])
theorem mw_m237 : mj_meth 237 = some mw_M237 := rfl
abbrev mw_M238 : mj_M := (⟨"WivesQuarrelsModel", "person", "(II)I"⟩, prog_12_method_67_code, 3, some .int, 2, 9, false, [])
theorem mw_m238 : mj_meth 238 = some mw_M238 := rfl
abbrev mw_M239 : mj_M := (⟨"WivesQuarrelsModel", "isPerson", "(I)Z"⟩, prog_12_method_8_code, 2, some .boolean, 1, 9, false, [])
theorem mw_m239 : mj_meth 239 = some mw_M239 := rfl
abbrev mw_M240 : mj_M := (⟨"WivesQuarrelsModel", "isIn", "(JJJ)Z"⟩, prog_12_method_5_code, 6, some .boolean, 3, 9, false, [])
theorem mw_m240 : mj_meth 240 = some mw_M240 := rfl
abbrev mw_M241 : mj_M := (⟨"WivesQuarrelsModel", "lives", "(I)Z"⟩, prog_12_method_56_code, 2, some .boolean, 1, 9, false, [])
theorem mw_m241 : mj_meth 241 = some mw_M241 := rfl
abbrev mw_M242 : mj_M := (⟨"WivesQuarrelsModel", "quarrel", "(III)I"⟩, prog_12_method_68_code, 5, some .int, 3, 9, false, [])
theorem mw_m242 : mj_meth 242 = some mw_M242 := rfl
abbrev mw_M243 : mj_M := (⟨"WivesQuarrelsModel", "maySettle", "(II)Z"⟩, prog_12_method_59_code, 6, some .boolean, 2, 9, false, [])
theorem mw_m243 : mj_meth 243 = some mw_M243 := rfl
abbrev mw_M244 : mj_M := (⟨"WivesQuarrelsModel", "wouldCut", "(II)Z"⟩, prog_12_method_51_code, 3, some .boolean, 2, 9, false, [])
theorem mw_m244 : mj_meth 244 = some mw_M244 := rfl
abbrev mw_M245 : mj_M := (⟨"WivesQuarrelsModel", "ask", "(II)V"⟩, prog_12_method_49_code, 4, none, 2, 9, false, [])
theorem mw_m245 : mj_meth 245 = some mw_M245 := rfl
abbrev mw_M246 : mj_M := (⟨"WivesQuarrelsModel", "valueNow", "([II)I"⟩, prog_12_method_48_code, 6, some .int, 2, 9, false, [])
theorem mw_m246 : mj_meth 246 = some mw_M246 := rfl
abbrev mw_M247 : mj_M := (⟨"WivesQuarrelsModel", "reckon", "(III)I"⟩, prog_12_method_47_code, 3, some .int, 3, 9, false, [])
theorem mw_m247 : mj_meth 247 = some mw_M247 := rfl
abbrev mw_M248 : mj_M := (⟨"WivesQuarrelsModel", "weeks", "(I)I"⟩, prog_12_method_71_code, 2, some .int, 1, 9, false, [])
theorem mw_m248 : mj_meth 248 = some mw_M248 := rfl
abbrev mw_M249 : mj_M := (⟨"WivesQuarrelsModel", "refuse", "(I)I"⟩, prog_12_method_69_code, 2, some .int, 1, 9, false, [])
theorem mw_m249 : mj_meth 249 = some mw_M249 := rfl
abbrev mw_M250 : mj_M := (⟨"WivesQuarrelsModel", "keep", "()V"⟩, prog_12_method_70_code, 2, none, 0, 9, false, [])
theorem mw_m250 : mj_meth 250 = some mw_M250 := rfl
abbrev mw_M251 : mj_M := (⟨"WivesQuarrelsModel", "pack", "([II)V"⟩, prog_12_method_39_code, 5, none, 2, 9, false, [])
theorem mw_m251 : mj_meth 251 = some mw_M251 := rfl
abbrev mw_M252 : mj_M := (⟨"WivesQuarrelsModel", "goOn", "(I)V"⟩, prog_12_method_53_code, 3, none, 1, 9, false, [])
theorem mw_m252 : mj_meth 252 = some mw_M252 := rfl
abbrev mw_M253 : mj_M := (⟨"WivesQuarrelsModel", "aWeek", "()V"⟩, prog_12_method_52_code, 4, none, 0, 9, false, [])
theorem mw_m253 : mj_meth 253 = some mw_M253 := rfl
abbrev mw_M254 : mj_M := (⟨"WivesQuarrelsModel", "heatsOf", "(II)I"⟩, prog_12_method_50_code, 4, some .int, 2, 9, false, [])
theorem mw_m254 : mj_meth 254 = some mw_M254 := rfl
abbrev mw_M255 : mj_M := (⟨"WivesQuarrelsModel", "end", "(I)V"⟩, prog_12_method_46_code, 2, none, 1, 9, false, [])
theorem mw_m255 : mj_meth 255 = some mw_M255 := rfl
abbrev mw_M256 : mj_M := (⟨"WivesQuarrelsModel", "die", "(I)I"⟩, prog_12_method_72_code, 2, some .int, 1, 9, false, [])
theorem mw_m256 : mj_meth 256 = some mw_M256 := rfl
abbrev mw_M257 : mj_M := (⟨"WivesQuarrelsModel", "dies", "(I)V"⟩, prog_12_method_55_code, 4, none, 1, 9, false, [])
theorem mw_m257 : mj_meth 257 = some mw_M257 := rfl
abbrev mw_M258 : mj_M := (⟨"WivesQuarrelsModel", "inherit", "(III)V"⟩, prog_12_method_54_code, 6, none, 3, 9, false, [])
theorem mw_m258 : mj_meth 258 = some mw_M258 := rfl
abbrev mw_M259 : mj_M := (⟨"WivesQuarrelsModel", "wed", "(II)Z"⟩, prog_12_method_73_code, 3, some .boolean, 2, 9, false, [])
theorem mw_m259 : mj_meth 259 = some mw_M259 := rfl
abbrev mw_M260 : mj_M := (⟨"WivesQuarrelsModel", "failing", "(I)Z"⟩, prog_12_method_4_code, 2, some .boolean, 1, 9, false, [])
theorem mw_m260 : mj_meth 260 = some mw_M260 := rfl
abbrev mw_M261 : mj_M := (⟨"WivesQuarrelsModel", "mayWed", "(II)Z"⟩, prog_12_method_57_code, 3, some .boolean, 2, 9, false, [])
theorem mw_m261 : mj_meth 261 = some mw_M261 := rfl
abbrev mw_M262 : mj_M := (⟨"WivesQuarrelsModel", "areWed", "(II)V"⟩, prog_12_method_58_code, 3, none, 2, 9, false, [])
theorem mw_m262 : mj_meth 262 = some mw_M262 := rfl
abbrev mw_M263 : mj_M := (⟨"WivesQuarrelsModel", "settle", "(II)I"⟩, prog_12_method_74_code, 4, some .int, 2, 9, false, [])
theorem mw_m263 : mj_meth 263 = some mw_M263 := rfl
abbrev mw_M264 : mj_M := (⟨"WivesQuarrelsModel", "pick", "(IIII)I"⟩, prog_12_method_75_code, 5, some .int, 4, 9, false, [])
theorem mw_m264 : mj_meth 264 = some mw_M264 := rfl
abbrev mw_M265 : mj_M := (⟨"WivesQuarrelsModel", "mayPick", "(II)Z"⟩, prog_12_method_60_code, 3, some .boolean, 2, 9, false, [])
theorem mw_m265 : mj_meth 265 = some mw_M265 := rfl
abbrev mw_M266 : mj_M := (⟨"WivesQuarrelsModel", "doPick", "(IIII)V"⟩, prog_12_method_61_code, 6, none, 4, 9, false, [])
theorem mw_m266 : mj_meth 266 = some mw_M266 := rfl
abbrev mw_M267 : mj_M := (⟨"WivesQuarrelsModel", "undo", "()I"⟩, prog_12_method_76_code, 1, some .int, 0, 9, false, [])
theorem mw_m267 : mj_meth 267 = some mw_M267 := rfl
abbrev mw_M268 : mj_M := (⟨"WivesQuarrelsModel", "unpack", "([II)V"⟩, prog_12_method_40_code, 5, none, 2, 9, false, [])
theorem mw_m268 : mj_meth 268 = some mw_M268 := rfl
abbrev mw_M269 : mj_M := (⟨"WivesQuarrelsModel", "then", "(IIII)I"⟩, prog_12_method_77_code, 6, some .int, 4, 9, false, [])
theorem mw_m269 : mj_meth 269 = some mw_M269 := rfl
abbrev mw_M270 : mj_M := (⟨"WivesQuarrelsModel", "over", "(II)I"⟩, prog_12_method_78_code, 5, some .int, 2, 9, false, [])
theorem mw_m270 : mj_meth 270 = some mw_M270 := rfl
abbrev mw_M271 : mj_M := (⟨"WivesQuarrelsModel", "peace", "()I"⟩, prog_12_method_79_code, 3, some .int, 0, 9, false, [])
theorem mw_m271 : mj_meth 271 = some mw_M271 := rfl
abbrev mw_M272 : mj_M := (⟨"WivesQuarrelsModel", "later", "(II)I"⟩, prog_12_method_82_code, 4, some .int, 2, 9, false, [])
theorem mw_m272 : mj_meth 272 = some mw_M272 := rfl
abbrev mw_M273 : mj_M := (⟨"WivesQuarrelsModel", "hottest", "()I"⟩, prog_12_method_80_code, 5, some .int, 0, 9, false, [])
theorem mw_m273 : mj_meth 273 = some mw_M273 := rfl
abbrev mw_M274 : mj_M := (⟨"WivesQuarrelsModel", "bitter", "()I"⟩, prog_12_method_81_code, 3, some .int, 0, 9, false, [])
theorem mw_m274 : mj_meth 274 = some mw_M274 := rfl
abbrev mw_M275 : mj_M := (⟨"WivesQuarrelsModel", "coldest", "(I)I"⟩, prog_12_method_84_code, 4, some .int, 1, 9, false, [])
theorem mw_m275 : mj_meth 275 = some mw_M275 := rfl
abbrev mw_M276 : mj_M := (⟨"WivesQuarrelsModel", "cutsOf", "(I)I"⟩, prog_12_method_83_code, 4, some .int, 1, 9, false, [])
theorem mw_m276 : mj_meth 276 = some mw_M276 := rfl
abbrev mw_M277 : mj_M := (⟨"WivesQuarrelsModel", "comesInto", "(II)I"⟩, prog_12_method_85_code, 5, some .int, 2, 9, false, [])
theorem mw_m277 : mj_meth 277 = some mw_M277 := rfl
abbrev mw_M278 : mj_M := (⟨"WivesQuarrelsModel", "spared", "(I)I"⟩, prog_12_method_86_code, 4, some .int, 1, 9, false, [])
theorem mw_m278 : mj_meth 278 = some mw_M278 := rfl
abbrev mw_M279 : mj_M := (⟨"WivesQuarrelsModel", "deaths", "()I"⟩, prog_12_method_87_code, 5, some .int, 0, 9, false, [])
theorem mw_m279 : mj_meth 279 = some mw_M279 := rfl
abbrev mw_M280 : mj_M := (⟨"WivesQuarrelsModel", "camps", "()I"⟩, prog_12_method_88_code, 6, some .int, 0, 9, false, [])
theorem mw_m280 : mj_meth 280 = some mw_M280 := rfl
abbrev mw_M281 : mj_M := (⟨"WivesQuarrelsModel", "between", "(II)I"⟩, prog_12_method_89_code, 7, some .int, 2, 9, false, [])
theorem mw_m281 : mj_meth 281 = some mw_M281 := rfl
abbrev mw_M282 : mj_M := (⟨"WivesQuarrelsModel", "drawers", "()I"⟩, prog_12_method_90_code, 5, some .int, 0, 9, false, [])
theorem mw_m282 : mj_meth 282 = some mw_M282 := rfl
abbrev mw_M283 : mj_M := (⟨"WivesQuarrelsModel", "friends", "(I)I"⟩, prog_12_method_91_code, 5, some .int, 1, 9, false, [])
theorem mw_m283 : mj_meth 283 = some mw_M283 := rfl
abbrev mw_M284 : mj_M := (⟨"WivesQuarrelsModel", "match", "(I)I"⟩, prog_12_method_92_code, 6, some .int, 1, 9, false, [])
theorem mw_m284 : mj_meth 284 = some mw_M284 := rfl
abbrev mw_M285 : mj_M := (⟨"WivesQuarrelsModel", "ready", "()I"⟩, prog_12_method_93_code, 4, some .int, 0, 9, false, [])
theorem mw_m285 : mj_meth 285 = some mw_M285 := rfl
abbrev mw_M286 : mj_M := (⟨"WivesQuarrelsModel", "mildest", "()I"⟩, prog_12_method_94_code, 3, some .int, 0, 9, false, [])
theorem mw_m286 : mj_meth 286 = some mw_M286 := rfl
abbrev mw_M287 : mj_M := (⟨"WivesQuarrelsModel", "triples", "()I"⟩, prog_12_method_95_code, 4, some .int, 0, 9, false, [])
theorem mw_m287 : mj_meth 287 = some mw_M287 := rfl
abbrev mw_M288 : mj_M := (⟨"WivesQuarrelsModel", "alone", "()I"⟩, prog_12_method_96_code, 3, some .int, 0, 9, false, [])
theorem mw_m288 : mj_meth 288 = some mw_M288 := rfl
abbrev mw_M289 : mj_M := (⟨"WivesQuarrelsModel", "foes", "(II)I"⟩, prog_12_method_97_code, 3, some .int, 2, 9, false, [])
theorem mw_m289 : mj_meth 289 = some mw_M289 := rfl
abbrev mw_M290 : mj_M := (⟨"WivesQuarrelsModel", "word", "(I)I"⟩, prog_12_method_98_code, 4, some .int, 1, 9, false, [])
theorem mw_m290 : mj_meth 290 = some mw_M290 := rfl
abbrev mw_M291 : mj_M := (⟨"WivesQuarrelsModel", "single", "()I"⟩, prog_12_method_99_code, 3, some .int, 0, 9, false, [])
theorem mw_m291 : mj_meth 291 = some mw_M291 := rfl
abbrev mw_M292 : mj_M := (⟨"WivesQuarrelsModel", "cuts", "()I"⟩, prog_12_method_100_code, 3, some .int, 0, 9, false, [])
theorem mw_m292 : mj_meth 292 = some mw_M292 := rfl
abbrev mw_M293 : mj_M := (⟨"WivesQuarrelsModel", "see", "(IIII)I"⟩, prog_12_method_101_code, 5, some .int, 4, 9, false, [])
theorem mw_m293 : mj_meth 293 = some mw_M293 := rfl
abbrev mw_M294 : mj_M := (⟨"WivesQuarrelsModel", "nerved", "(I)I"⟩, prog_12_method_104_code, 2, some .int, 1, 9, false, [])
theorem mw_m294 : mj_meth 294 = some mw_M294 := rfl
abbrev mw_M295 : mj_M := (⟨"WivesQuarrelsModel", "isAsSeen", "()Z"⟩, prog_12_method_102_code, 5, some .boolean, 0, 9, false, [])
theorem mw_m295 : mj_meth 295 = some mw_M295 := rfl
abbrev mw_M296 : mj_M := (⟨"WivesQuarrelsModel", "tellFits", "()V"⟩, prog_12_method_103_code, 4, none, 0, 9, false, [])
theorem mw_m296 : mj_meth 296 = some mw_M296 := rfl
abbrev mw_M297 : mj_M := (⟨"WivesQuarrelsModel", "look", "(I)I"⟩, prog_12_method_106_code, 7, some .int, 1, 9, false, [])
theorem mw_m297 : mj_meth 297 = some mw_M297 := rfl
abbrev mw_M298 : mj_M := (⟨"WivesQuarrelsModel", "unlike", "(I)I"⟩, prog_12_method_105_code, 6, some .int, 1, 9, false, [])
theorem mw_m298 : mj_meth 298 = some mw_M298 := rfl
abbrev mw_M299 : mj_M := (⟨"WivesQuarrelsModel", "forget", "()V"⟩, prog_12_method_107_code, 1, none, 0, 9, false, [])
theorem mw_m299 : mj_meth 299 = some mw_M299 := rfl
abbrev mw_M300 : mj_M := (⟨"WivesQuarrelsModel", "game", "(III)I"⟩, prog_12_method_110_code, 10, some .int, 3, 9, false, [])
theorem mw_m300 : mj_meth 300 = some mw_M300 := rfl
abbrev mw_M301 : mj_M := (⟨"WivesQuarrelsModel", "heatSoon", "(I)I"⟩, prog_12_method_108_code, 3, some .int, 1, 9, false, [])
theorem mw_m301 : mj_meth 301 = some mw_M301 := rfl
abbrev mw_M302 : mj_M := (⟨"WivesQuarrelsModel", "gainOf", "(IIII)I"⟩, prog_12_method_109_code, 5, some .int, 4, 9, false, [])
theorem mw_m302 : mj_meth 302 = some mw_M302 := rfl
abbrev mw_M303 : mj_M := (⟨"WivesQuarrelsModel", "years", "(III)I"⟩, prog_12_method_113_code, 5, some .int, 3, 9, false, [])
theorem mw_m303 : mj_meth 303 = some mw_M303 := rfl
abbrev mw_M304 : mj_M := (⟨"WivesQuarrelsModel", "something", "()V"⟩, prog_12_method_112_code, 6, none, 0, 9, false, [])
theorem mw_m304 : mj_meth 304 = some mw_M304 := rfl
abbrev mw_M305 : mj_M := (⟨"WivesQuarrelsModel", "drawOf", "(I)I"⟩, prog_12_method_111_code, 2, some .int, 1, 9, false, [])
theorem mw_m305 : mj_meth 305 = some mw_M305 := rfl
abbrev mw_M306 : mj_M := (⟨"WivesQuarrelsModel", "image", "()V"⟩, prog_12_method_115_code, 1, none, 0, 9, false, [])
theorem mw_m306 : mj_meth 306 = some mw_M306 := rfl
abbrev mw_M307 : mj_M := (⟨"WivesQuarrelsModel", "copyTo", "([I[I)V"⟩, prog_12_method_114_code, 3, none, 2, 9, false, [])
theorem mw_m307 : mj_meth 307 = some mw_M307 := rfl
abbrev mw_M308 : mj_M := (⟨"WivesQuarrelsModel", "restore", "()Z"⟩, prog_12_method_116_code, 1, some .boolean, 0, 9, false, [])
theorem mw_m308 : mj_meth 308 = some mw_M308 := rfl
abbrev mw_M309 : mj_M := (⟨"WivesQuarrels$Game", "answer", "(IIII)I"⟩, prog_6_method_2_code, 8, some .int, 4, 10, false, [])
theorem mw_m309 : mj_meth 309 = some mw_M309 := rfl
abbrev mw_M310 : mj_M := (⟨"WivesQuarrels$Game", "isBest", "(IIII)Z"⟩, prog_6_method_3_code, 4, some .boolean, 4, 10, false, [])
theorem mw_m310 : mj_meth 310 = some mw_M310 := rfl
abbrev mw_M311 : mj_M := (⟨"WivesQuarrels$Game", "gain", "(IIII)I"⟩, prog_6_method_4_code, 4, some .int, 4, 10, false, [])
theorem mw_m311 : mj_meth 311 = some mw_M311 := rfl
abbrev mw_M312 : mj_M := (⟨"WivesQuarrelsLaw", "town", "(LWivesQuarrels;I[J)I"⟩, method_3_code, 4, some .int, 3, 11, false, [(0, 9, 12, 13)])
theorem mw_m312 : mj_meth 312 = some mw_M312 := rfl
abbrev mw_M313 : mj_M := (⟨"WivesQuarrelsLaw", "count", "(LWivesQuarrels;I[J)I"⟩, method_4_code, 4, some .int, 3, 11, false, [(0, 9, 12, 18)])
theorem mw_m313 : mj_meth 313 = some mw_M313 := rfl
abbrev mw_M314 : mj_M := (⟨"WivesQuarrelsLaw", "person", "(LWivesQuarrels;II[J)I"⟩, method_5_code, 5, some .int, 4, 11, false, [(0, 10, 13, 18)])
theorem mw_m314 : mj_meth 314 = some mw_M314 := rfl
abbrev mw_M315 : mj_M := (⟨"WivesQuarrelsLaw", "quarrel", "(LWivesQuarrels;III[J)I"⟩, method_6_code, 6, some .int, 5, 11, false, [(0, 12, 15, 18)])
theorem mw_m315 : mj_meth 315 = some mw_M315 := rfl
abbrev mw_M316 : mj_M := (⟨"WivesQuarrelsLaw", "die", "(LWivesQuarrels;I[J)I"⟩, method_7_code, 4, some .int, 3, 11, false, [(0, 9, 12, 18)])
theorem mw_m316 : mj_meth 316 = some mw_M316 := rfl
abbrev mw_M317 : mj_M := (⟨"WivesQuarrelsLaw", "wed", "(LWivesQuarrels;II[J)I"⟩, method_8_code, 5, some .int, 4, 11, false, [(0, 17, 20, 18)])
theorem mw_m317 : mj_meth 317 = some mw_M317 := rfl
abbrev mw_M318 : mj_M := (⟨"WivesQuarrelsLaw", "settle", "(LWivesQuarrels;II[J)I"⟩, method_9_code, 5, some .int, 4, 11, false, [(0, 10, 13, 18)])
theorem mw_m318 : mj_meth 318 = some mw_M318 := rfl
abbrev mw_M319 : mj_M := (⟨"WivesQuarrelsLaw", "pick", "(LWivesQuarrels;IIII[J)I"⟩, method_10_code, 7, some .int, 6, 11, false, [(0, 14, 17, 18)])
theorem mw_m319 : mj_meth 319 = some mw_M319 := rfl
abbrev mw_M320 : mj_M := (⟨"WivesQuarrelsLaw", "then", "(LWivesQuarrels;IIII[J)I"⟩, method_11_code, 7, some .int, 6, 11, false, [(0, 14, 17, 18), (0, 14, 21, 13)])
theorem mw_m320 : mj_meth 320 = some mw_M320 := rfl
abbrev mw_M321 : mj_M := (⟨"WivesQuarrelsLaw", "over", "(LWivesQuarrels;II[J)I"⟩, method_12_code, 5, some .int, 4, 11, false, [(0, 10, 13, 18)])
theorem mw_m321 : mj_meth 321 = some mw_M321 := rfl
abbrev mw_M322 : mj_M := (⟨"WivesQuarrelsLaw", "later", "(LWivesQuarrels;II[J)I"⟩, method_13_code, 5, some .int, 4, 11, false, [(0, 10, 13, 18), (0, 10, 17, 13)])
theorem mw_m322 : mj_meth 322 = some mw_M322 := rfl
abbrev mw_M323 : mj_M := (⟨"WivesQuarrelsLaw", "comesInto", "(LWivesQuarrels;II[J)I"⟩, method_14_code, 5, some .int, 4, 11, false, [(0, 10, 13, 18)])
theorem mw_m323 : mj_meth 323 = some mw_M323 := rfl
abbrev mw_M324 : mj_M := (⟨"WivesQuarrelsLaw", "between", "(LWivesQuarrels;II[J)I"⟩, method_15_code, 5, some .int, 4, 11, false, [(0, 10, 13, 18)])
theorem mw_m324 : mj_meth 324 = some mw_M324 := rfl
abbrev mw_M325 : mj_M := (⟨"WivesQuarrelsLaw", "friends", "(LWivesQuarrels;I[J)I"⟩, method_16_code, 4, some .int, 3, 11, false, [(0, 9, 12, 18)])
theorem mw_m325 : mj_meth 325 = some mw_M325 := rfl
abbrev mw_M326 : mj_M := (⟨"WivesQuarrelsLaw", "spared", "(LWivesQuarrels;I[J)I"⟩, method_17_code, 4, some .int, 3, 11, false, [(0, 9, 12, 18)])
theorem mw_m326 : mj_meth 326 = some mw_M326 := rfl
abbrev mw_M327 : mj_M := (⟨"WivesQuarrelsLaw", "match", "(LWivesQuarrels;I[J)I"⟩, method_18_code, 4, some .int, 3, 11, false, [(0, 9, 12, 18)])
theorem mw_m327 : mj_meth 327 = some mw_M327 := rfl
abbrev mw_M328 : mj_M := (⟨"WivesQuarrelsLaw", "coldest", "(LWivesQuarrels;I[J)I"⟩, method_19_code, 4, some .int, 3, 11, false, [(0, 9, 12, 13)])
theorem mw_m328 : mj_meth 328 = some mw_M328 := rfl
abbrev mw_M329 : mj_M := (⟨"WivesQuarrelsLaw", "foes", "(LWivesQuarrels;II[J)I"⟩, method_20_code, 5, some .int, 4, 11, false, [(0, 10, 13, 18)])
theorem mw_m329 : mj_meth 329 = some mw_M329 := rfl
abbrev mw_M330 : mj_M := (⟨"WivesQuarrelsLaw", "word", "(LWivesQuarrels;I[J)I"⟩, method_21_code, 4, some .int, 3, 11, false, [(0, 9, 12, 18)])
theorem mw_m330 : mj_meth 330 = some mw_M330 := rfl
abbrev mw_M331 : mj_M := (⟨"WivesQuarrelsLaw", "see", "(LWivesQuarrels;IIII[J)I"⟩, method_22_code, 7, some .int, 6, 11, false, [(0, 14, 17, 18)])
theorem mw_m331 : mj_meth 331 = some mw_M331 := rfl
abbrev mw_M332 : mj_M := (⟨"WivesQuarrelsLaw", "nerved", "(LWivesQuarrels;I[J)I"⟩, method_23_code, 4, some .int, 3, 11, false, [(0, 9, 12, 18)])
theorem mw_m332 : mj_meth 332 = some mw_M332 := rfl
abbrev mw_M333 : mj_M := (⟨"WivesQuarrelsLaw", "look", "(LWivesQuarrels;I[J)I"⟩, method_24_code, 4, some .int, 3, 11, false, [(0, 9, 12, 18)])
theorem mw_m333 : mj_meth 333 = some mw_M333 := rfl
abbrev mw_M334 : mj_M := (⟨"WivesQuarrelsLaw", "game", "(LWivesQuarrels;III[J)I"⟩, method_25_code, 6, some .int, 5, 11, false, [(0, 12, 15, 18), (0, 12, 19, 13)])
theorem mw_m334 : mj_meth 334 = some mw_M334 := rfl
abbrev mw_M335 : mj_M := (⟨"WivesQuarrelsLaw", "years", "(LWivesQuarrels;III[J)I"⟩, method_26_code, 6, some .int, 5, 11, false, [(0, 12, 15, 18), (0, 12, 19, 13)])
theorem mw_m335 : mj_meth 335 = some mw_M335 := rfl
abbrev mw_M336 : mj_M := (⟨"WivesQuarrelsLaw", "law", "([I)Z"⟩, code, 7, some .boolean, 1, 11, false, [])
theorem mw_m336 : mj_meth 336 = some mw_M336 := rfl
abbrev mw_M337 : mj_M := (⟨"java/lang/String", "length", "()I"⟩, prog_23_method_54_code, 1, some .int, 0, 12, false, [])
theorem mw_m337 : mj_meth 337 = some mw_M337 := rfl
abbrev mw_M338 : mj_M := (⟨"java/lang/String", "coder", "()B"⟩, prog_23_method_152_code, 1, some .byte, 0, 12, false, [])
theorem mw_m338 : mj_meth 338 = some mw_M338 := rfl
abbrev mw_M339 : mj_M := (⟨"java/lang/String", "charAt", "(I)C"⟩, prog_23_method_56_code, 2, some .char, 1, 12, false, [])
theorem mw_m339 : mj_meth 339 = some mw_M339 := rfl
abbrev mw_M340 : mj_M := (⟨"java/lang/String", "isLatin1", "()Z"⟩, prog_23_method_154_code, 1, some .boolean, 0, 12, false, [])
theorem mw_m340 : mj_meth 340 = some mw_M340 := rfl
abbrev mw_M341 : mj_M := (⟨"java/lang/String", "checkIndex", "(II)V"⟩, prog_23_method_155_code, 2, none, 2, 12, false, [])
theorem mw_m341 : mj_meth 341 = some mw_M341 := rfl
abbrev mw_M342 : mj_M := (⟨"java/lang/String", "indexOf", "(I)I"⟩, prog_23_method_79_code, 2, some .int, 1, 12, false, [])
theorem mw_m342 : mj_meth 342 = some mw_M342 := rfl
abbrev mw_M343 : mj_M := (⟨"java/lang/String", "indexOf", "(II)I"⟩, prog_23_method_80_code, 3, some .int, 2, 12, false, [])
theorem mw_m343 : mj_meth 343 = some mw_M343 := rfl
abbrev mw_M344 : mj_M := (⟨"java/lang/StringLatin1", "charAt", "([BI)C"⟩, prog_24_method_2_code, 2, some .char, 2, 13, false, [])
theorem mw_m344 : mj_meth 344 = some mw_M344 := rfl
abbrev mw_M345 : mj_M := (⟨"java/lang/StringLatin1", "indexOf", "([BIII)I"⟩, prog_24_method_22_code, 4, some .int, 4, 13, false, [])
theorem mw_m345 : mj_meth 345 = some mw_M345 := rfl
abbrev mw_M346 : mj_M := (⟨"java/lang/StringLatin1", "canEncode", "(I)Z"⟩, prog_24_method_4_code, 1, some .boolean, 1, 13, false, [])
theorem mw_m346 : mj_meth 346 = some mw_M346 := rfl
abbrev mw_M347 : mj_M := (⟨"java/lang/StringLatin1", "indexOfChar", "([BIII)I"⟩, prog_24_method_23_code, 6, some .int, 4, 13, false, [])
theorem mw_m347 : mj_meth 347 = some mw_M347 := rfl
abbrev mw_M348 : mj_M := (⟨"java/lang/Integer", "bitCount", "(I)I"⟩, prog_19_method_49_code, 1, some .int, 1, 15, false, [])
theorem mw_m348 : mj_meth 348 = some mw_M348 := rfl
abbrev mw_M349 : mj_M := (⟨"java/lang/Long", "bitCount", "(J)I"⟩, prog_20_method_50_code, 2, some .int, 1, 16, false, [])
theorem mw_m349 : mj_meth 349 = some mw_M349 := rfl
abbrev mw_M350 : mj_M := (⟨"java/util/Arrays", "fill", "([II)V"⟩, prog_30_method_103_code, 4, none, 2, 17, false, [])
theorem mw_m350 : mj_meth 350 = some mw_M350 := rfl
abbrev mw_M351 : mj_M := (⟨"java/util/Arrays", "fill", "([JJ)V"⟩, prog_30_method_101_code, 5, none, 2, 17, false, [])
theorem mw_m351 : mj_meth 351 = some mw_M351 := rfl
abbrev mw_M352 : mj_M := (⟨"jdk/internal/util/Preconditions", "checkIndex", "(IILjava/util/function/BiFunction;)I"⟩, prog_32_method_11_code, 3, some .int, 3, 18, false, [])
theorem mw_m352 : mj_meth 352 = some mw_M352 := rfl
