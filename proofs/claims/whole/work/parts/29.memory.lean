/-! THE MEMORY: all cells of both objects, once they are made, in one shape -/
abbrev mw_S : Type := (Nat → Nat → Int32) × (Nat → Nat → Int64) × Nat × Nat
/-- a row of ints; an object (its ints, its references); a row of longs; a row of texts -/
abbrev mw_H : Type := (FieldType × Nat) ⊕ ((Nat × List (Option Nat)) ⊕ (Nat ⊕ List Nat))
def mw_fv (s : mw_S) (k j : Nat) (o : Option Nat) : Value := match o with
  | none => .int (s.1 k j)
  | some r => .ref r
def mw_cell (s : mw_S) (k : Nat) (c : mw_H) : mj_C := match c with
  | .inl (ty, n) => .inl (ty, n, .inl (s.1 k))
  | .inr (.inl (ci, fs)) => .inr (ci, fs.mapIdx (mw_fv s k))
  | .inr (.inr (.inl n)) => .inl (.long, n, .inr (.inl (s.2.1 k)))
  | .inr (.inr (.inr l)) => .inl (.object "java/lang/String", l.length, .inr (.inr (.inr (.inr fun j => l[j]?))))
def mw_sh0 : List mw_H := [.inr (.inl (8, [some 1, some 2, some 10, some 18, some 22, some 31, some 34, some 39, some 40, none, none, none])),
  .inl (.byte, 700),
  .inr (.inl (0, [some 3, some 5, none, none, some 6, some 7, some 8, none, some 9])),
  .inr (.inl (3, [some 4])),
  .inl (.int, 64),
  .inl (.int, 2560),
  .inl (.int, 8),
  .inl (.int, 8),
  .inl (.int, 8),
  .inl (.int, 3),
  .inr (.inl (0, [some 11, some 13, none, none, some 14, some 15, some 16, none, some 17])),
  .inr (.inl (3, [some 12])),
  .inl (.int, 64),
  .inl (.int, 2560),
  .inl (.int, 8),
  .inl (.int, 8),
  .inl (.int, 8),
  .inl (.int, 3),
  .inr (.inl (6, [some 19, none, none, none, none, none, some 20, some 21])),
  .inl (.int, 700),
  .inl (.int, 6),
  .inl (.int, 40),
  .inr (.inl (5, [some 23, some 25, some 27, none, none])),
  .inr (.inl (7, [some 24, none, none, none, none, none])),
  .inl (.byte, 700),
  .inr (.inl (3, [some 26])),
  .inl (.int, 64),
  .inr (.inl (6, [some 28, none, none, none, none, none, some 29, some 30])),
  .inl (.int, 700),
  .inl (.int, 6),
  .inl (.int, 40),
  .inr (.inl (1, [some 32, some 33, none])),
  .inl (.int, 8),
  .inl (.int, 256),
  .inr (.inl (4, [some 35, some 37, some 38])),
  .inr (.inl (3, [some 36])),
  .inl (.int, 64),
  .inl (.boolean, 80),
  .inr (.inr (.inl 56)),
  .inr (.inl (2, [none])),
  .inr (.inl (3, [some 41])),
  .inl (.int, 64),
  .inr (.inl (9, [some 43, some 44, none, some 45, some 46, some 47, some 48, some 49, some 50, some 51, some 52, some 53, some 54, some 55, some 56, none, none, none, none, none, none, none, none, none, none, none, some 57, some 58, some 59, some 60, some 61, some 62, none, none, none, none, some 63, some 64, some 65, some 66, some 67, some 68, some 69, some 70, some 71, some 72, none, none, none, none, none, some 73, some 74, some 75, some 76, some 77, some 78])),
  .inr (.inr (.inr [1000108, 1000109])),
  .inr (.inr (.inr [1000110, 1000111, 1000112, 1000113, 1000114, 1000115])),
  .inl (.int, 6),
  .inl (.int, 16),
  .inl (.int, 16),
  .inl (.int, 16),
  .inl (.int, 16),
  .inl (.int, 128),
  .inl (.int, 128),
  .inl (.int, 1400),
  .inl (.int, 1400),
  .inl (.int, 3),
  .inl (.int, 8),
  .inl (.int, 700),
  .inl (.int, 8),
  .inl (.int, 8),
  .inl (.int, 64),
  .inl (.int, 64),
  .inl (.int, 64),
  .inl (.int, 8400),
  .inl (.int, 6),
  .inl (.int, 64),
  .inl (.int, 256),
  .inl (.int, 210),
  .inl (.int, 8),
  .inl (.int, 8),
  .inl (.int, 8),
  .inl (.int, 210),
  .inl (.int, 80),
  .inl (.int, 5120),
  .inl (.int, 210),
  .inl (.int, 8400),
  .inl (.int, 8),
  .inl (.int, 8),
  .inl (.int, 8),
  .inl (.int, 3),
  .inr (.inr (.inl 1))]
theorem mw_sh_ex : ∃ l : List mw_H, l = mw_sh0 := ⟨_, rfl⟩
noncomputable def mw_sh : List mw_H := Classical.choose mw_sh_ex
theorem mw_sh_eq : mw_sh = mw_sh0 := Classical.choose_spec mw_sh_ex
def mw_V (l : List mw_H) (s : mw_S) : List mj_C := l.mapIdx (mw_cell s)
noncomputable def mw_U (s : mw_S) : mj_W := (mw_V mw_sh s, s.2.2.1, s.2.2.2)
noncomputable def mw_cl (k : Nat) : Option Nat := match mw_sh[k]? with
  | some (.inr (.inl (ci, _))) => some ci
  | _ => none
noncomputable def mw_fd (k j : Nat) : Option (Option Nat) := match mw_sh[k]? with
  | some (.inr (.inl (_, fs))) => fs[j]?
  | _ => none
noncomputable def mw_rw (k : Nat) : Option (FieldType × Nat) := match mw_sh[k]? with
  | some (.inl (ty, n)) => some (ty, n)
  | _ => none
noncomputable def mw_ll (k : Nat) : Option Nat := match mw_sh[k]? with
  | some (.inr (.inr (.inl n))) => some n
  | _ => none
def mw_p (s : mw_S) (k j : Nat) (v : Int32) : mw_S := (fun a b => if a = k ∧ b = j then v else s.1 a b, s.2)
def mw_pl (s : mw_S) (k j : Nat) (v : Int64) : mw_S := (s.1, fun a b => if a = k ∧ b = j then v else s.2.1 a b, s.2.2)
def mw_c (s : mw_S) (ks kd sp dp n : Nat) : mw_S := (fun a b => if a = kd ∧ dp ≤ b ∧ b < dp + n then s.1 ks (sp + (b - dp)) else s.1 a b, s.2)
def mw_x (s : mw_S) : mw_S := (s.1, s.2.1, s.2.2.1 + 1, s.2.2.2 + 6)
def mw_in (n : Nat) (i : Int32) : Bool := decide (¬ (i < 0 ∨ n ≤ i.toNatClampNeg))
theorem mw_V_at (l : List mw_H) (s : mw_S) (k : Nat) : (mw_V l s)[k]? = (l[k]?).map (mw_cell s k) := List.getElem?_mapIdx
theorem mw_V_len (l : List mw_H) (s : mw_S) : (mw_V l s).length = l.length := List.length_mapIdx
theorem mw_U1 (s : mw_S) : (mw_U s).1 = mw_V mw_sh s := by simp only [mw_U]
theorem mw_at (s : mw_S) (k : Nat) : (mw_U s).1[k]? = (mw_sh[k]?).map (mw_cell s k) := by rw [mw_U1, mw_V_at]
theorem mw_lt {k : Nat} {c : mw_H} (h : mw_sh[k]? = some c) : k < 1000000 := Nat.lt_of_lt_of_le (List.getElem?_eq_some_iff.mp h).1 (by rw [mw_sh_eq]; exact Nat.le_of_ble_eq_true rfl)
theorem mw_cl_at {k ci : Nat} (h : mw_cl k = some ci) : ∃ fs, mw_sh[k]? = some (.inr (.inl (ci, fs))) := by
  unfold mw_cl at h
  split at h
  · next hh => cases h; exact ⟨_, hh⟩
  · cases h
theorem mw_fd_at {k j ci : Nat} {o : Option Nat} (hc : mw_cl k = some ci) (h : mw_fd k j = some o) : ∃ fs, mw_sh[k]? = some (.inr (.inl (ci, fs))) ∧ fs[j]? = some o := by
  obtain ⟨fs, hf⟩ := mw_cl_at hc
  unfold mw_fd at h
  rw [hf] at h
  exact ⟨fs, hf, h⟩
theorem mw_rw_at {k n : Nat} {ty : FieldType} (h : mw_rw k = some (ty, n)) : mw_sh[k]? = some (.inl (ty, n)) := by
  unfold mw_rw at h
  split at h
  · next hh => cases h; exact hh
  · cases h
theorem mw_ll_at {k n : Nat} (h : mw_ll k = some n) : mw_sh[k]? = some (.inr (.inr (.inl n))) := by
  unfold mw_ll at h
  split at h
  · next hh => cases h; exact hh
  · cases h
theorem mw_fld {s : mw_S} {k j ci : Nat} {o : Option Nat} (hc : mw_cl k = some ci) (h : mw_fd k j = some o) : mj_fld (mw_U s) k ci j = some (mw_fv s k j o) := by
  obtain ⟨fs, h1, h2⟩ := mw_fd_at hc h
  unfold mj_fld
  rw [if_pos (mw_lt h1), mw_at, h1]
  simp only [Option.map_some, mw_cell, if_true, List.getElem?_mapIdx, h2]
theorem mw_row {s : mw_S} {k n : Nat} {ty : FieldType} (h : mw_rw k = some (ty, n)) : mj_row (mw_U s) k = some (ty, n, s.1 k) := by
  have h1 := mw_rw_at h
  unfold mj_row
  rw [if_pos (mw_lt h1), mw_at, h1]
  rfl
theorem mw_lrow {s : mw_S} {k n : Nat} (h : mw_ll k = some n) : mj_lrow (mw_U s) k = some (n, s.2.1 k) := by
  have h1 := mw_ll_at h
  unfold mj_lrow
  rw [if_pos (mw_lt h1), mw_at, h1]
  rfl
theorem mw_rcv {s : mw_S} {k ci : Nat} (hc : mw_cl k = some ci) : mj_rcv (mw_U s) k = some ci := by
  obtain ⟨fs, h1⟩ := mw_cl_at hc
  unfold mj_rcv
  rw [if_pos (mw_lt h1), mw_at, h1]
  rfl
/-- a cell written -/
theorem mw_set {s t : mw_S} {k : Nat} {c : mw_H} (hk : mw_sh[k]? = some c) (h : ∀ i, i ≠ k → t.1 i = s.1 i ∧ t.2.1 i = s.2.1 i) (h2 : t.2.2 = s.2.2) : ((mw_U s).1.set k (mw_cell t k c), (mw_U s).2) = mw_U t := by
  refine Prod.ext ?_ (show (s.2.2.1, s.2.2.2) = (t.2.2.1, t.2.2.2) by rw [h2])
  apply List.ext_getElem?
  intro i
  have hl : k < (mw_U s).1.length := by
    rw [mw_U1, mw_V_len]; exact (List.getElem?_eq_some_iff.mp hk).1
  by_cases hi : i = k
  · subst hi
    rw [List.getElem?_set_self hl, mw_at, hk]; rfl
  · rw [List.getElem?_set_ne (fun z => hi z.symm), mw_at, mw_at]
    congr 1
    funext c2
    obtain ⟨e1, e2⟩ := h i hi
    unfold mw_cell
    rcases c2 with ⟨ty, n⟩ | ⟨ci, fs⟩ | n | l
    · simp only [e1]
    · simp only
      have e : mw_fv s i = mw_fv t i := by
        funext j o
        unfold mw_fv
        rw [e1]
      rw [e]
    · simp only [e2]
    · rfl
theorem mw_p_ne {s : mw_S} {k j : Nat} {v : Int32} : ∀ i, i ≠ k → (mw_p s k j v).1 i = s.1 i ∧ (mw_p s k j v).2.1 i = s.2.1 i := fun i hi => ⟨by funext b; exact if_neg (fun z => hi z.1), rfl⟩
theorem mw_p_eq {s : mw_S} {k j : Nat} {v : Int32} : (mw_p s k j v).1 k = upd (s.1 k) j v := by
  funext b
  show (if k = k ∧ b = j then v else s.1 k b) = _
  unfold upd
  simp only [true_and]
theorem mw_wi {s : mw_S} {k n j : Nat} {ty : FieldType} {v : Int32} (h : mw_rw k = some (ty, n)) : mj_wi (mw_U s) k (upd (s.1 k) j v) = mw_U (mw_p s k j v) := by
  have h1 := mw_rw_at h
  unfold mj_wi
  rw [mw_at, h1]
  rw [← mw_set (s := s) h1 mw_p_ne rfl]
  show _ = (List.set (mw_U s).1 k (Sum.inl (ty, n, .inl ((mw_p s k j v).1 k)) : mj_C), (mw_U s).2)
  rw [mw_p_eq]
  rfl
theorem mw_wl {s : mw_S} {k n j : Nat} {v : Int64} (h : mw_ll k = some n) : mj_wl (mw_U s) k (vp_updL (s.2.1 k) j v) = mw_U (mw_pl s k j v) := by
  have h1 := mw_ll_at h
  unfold mj_wl
  rw [mw_at, h1]
  rw [← mw_set (s := s) (t := mw_pl s k j v) h1 (fun i hi => ⟨rfl, by funext b; exact if_neg (fun (z : i = k ∧ b = j) => hi z.1)⟩) rfl]
  have e : (mw_pl s k j v).2.1 k = vp_updL (s.2.1 k) j v := by
    funext b
    show (if k = k ∧ b = j then v else s.2.1 k b) = _
    unfold vp_updL
    simp only [true_and]
  show _ = (List.set (mw_U s).1 k (Sum.inl (.long, n, .inr (.inl ((mw_pl s k j v).2.1 k))) : mj_C), (mw_U s).2)
  rw [e]
  rfl
theorem mw_wf {s : mw_S} {k j ci : Nat} {x : Int32} (hc : mw_cl k = some ci) (h : mw_fd k j = some none) : mj_wf (mw_U s) k j (.int x) = mw_U (mw_p s k j x) := by
  obtain ⟨fs, h1, h2⟩ := mw_fd_at hc h
  unfold mj_wf
  rw [mw_at, h1]
  rw [← mw_set (s := s) h1 mw_p_ne rfl]
  have e : (fs.mapIdx (mw_fv s k)).set j (.int x) = fs.mapIdx (mw_fv (mw_p s k j x) k) := by
    apply List.ext_getElem?
    intro i
    have hl : j < (fs.mapIdx (mw_fv s k)).length := by
      rw [List.length_mapIdx]; exact (List.getElem?_eq_some_iff.mp h2).1
    by_cases hi : i = j
    · subst hi
      rw [List.getElem?_set_self hl, List.getElem?_mapIdx, h2]
      show _ = some (Value.int (if k = k ∧ i = i then x else s.1 k i))
      rw [if_pos ⟨rfl, rfl⟩]
    · rw [List.getElem?_set_ne (fun z => hi z.symm), List.getElem?_mapIdx, List.getElem?_mapIdx]
      congr 1
      funext o
      cases o with
      | none => show Value.int _ = Value.int (if k = k ∧ i = j then x else s.1 k i); rw [if_neg (fun z => hi z.2)]
      | some r => rfl
  show (List.set (mw_U s).1 k (Sum.inr (ci, (fs.mapIdx (mw_fv s k)).set j (.int x)) : mj_C), (mw_U s).2) = (List.set (mw_U s).1 k (Sum.inr (ci, fs.mapIdx (mw_fv (mw_p s k j x) k)) : mj_C), (mw_U s).2)
  rw [e]
section MWQ
variable {X : mj_X} {d y pc : Nat} {L : mj_L} {st r : List Value} {w : mj_W} {M : mj_M} {s : mw_S}
theorem mw_none {i : Instr} {len : Nat} (hM : mj_meth y = some M) (hd : decode M.2.1 pc = .ok (i, len)) (hs : mj_step X M i len pc L st w = none) : mj_exec X d y pc L st w = none := by
  apply Option.ext
  intro q
  rw [mj_exec_iff]
  constructor
  · intro ⟨n, hn⟩
    cases n with
    | zero => cases hn
    | succ n =>
      rw [mj_run, hM] at hn
      simp only [hd, hs] at hn
      cases hn
  · intro h; cases h
/-- a guard; what stands behind it -/
theorem mw_g {α : Type} {c : Prop} [Decidable c] {A B C : α} (h : A = B) : (if c then A else C) = (if c then B else C) := by rw [h]
theorem mw_e {α : Type} {c : Prop} [Decidable c] {A B C D : α} (h : A = B) (h2 : C = D) : (if c then A else C) = (if c then B else D) := by rw [h, h2]
theorem mw_q_geti (hM : mj_meth y = some M) {ix ci j k : Nat} (hd : decode M.2.1 pc = .ok (.getfield ix, 3)) (hp : mj_pool M.2.2.2.2.2.1 ix = some (0, ci, j)) (hc : mw_cl k = some ci) (hf : mw_fd k j = some none) : mj_exec X d y pc L (.ref k :: r) (mw_U s) = mj_exec X d y (pc + 3) L (.int (s.1 k j) :: r) (mw_U s) := mj_q_getf hM hd hp (mw_fld hc hf)
theorem mw_q_getr (hM : mj_meth y = some M) {ix ci j k q : Nat} (hd : decode M.2.1 pc = .ok (.getfield ix, 3)) (hp : mj_pool M.2.2.2.2.2.1 ix = some (0, ci, j)) (hc : mw_cl k = some ci) (hf : mw_fd k j = some (some q)) : mj_exec X d y pc L (.ref k :: r) (mw_U s) = mj_exec X d y (pc + 3) L (.ref q :: r) (mw_U s) := mj_q_getf hM hd hp (mw_fld hc hf)
theorem mw_q_puti (hM : mj_meth y = some M) {ix ci j k : Nat} {x : Int32} (hd : decode M.2.1 pc = .ok (.putfield ix, 3)) (hp : mj_pool M.2.2.2.2.2.1 ix = some (0, ci, j)) (hc : mw_cl k = some ci) (hf : mw_fd k j = some none) (h10 : ci < 10 ∧ j < mj_N ci) (hty : mj_ty ci j = .int) (hfin : mj_fin ci j = false ∨ (M.2.2.2.2.2.2.1 = true ∧ M.2.2.2.2.2.1 = ci)) : mj_exec X d y pc L (.int x :: .ref k :: r) (mw_U s) = mj_exec X d y (pc + 3) L r (mw_U (mw_p s k j x)) := by
  rw [← mw_wf hc hf]
  exact mj_q_putf hM hd hp h10 (by rw [hty]; rfl) hfin (mw_fld hc hf)
theorem mw_q_putz (hM : mj_meth y = some M) {ix ci j k : Nat} {x : Int32} (hd : decode M.2.1 pc = .ok (.putfield ix, 3)) (hp : mj_pool M.2.2.2.2.2.1 ix = some (0, ci, j)) (hc : mw_cl k = some ci) (hf : mw_fd k j = some none) (h10 : ci < 10 ∧ j < mj_N ci) (hty : mj_ty ci j = .boolean) (hfin : mj_fin ci j = false ∨ (M.2.2.2.2.2.2.1 = true ∧ M.2.2.2.2.2.1 = ci)) (hx : x = 0 ∨ x = 1) : mj_exec X d y pc L (.int x :: .ref k :: r) (mw_U s) = mj_exec X d y (pc + 3) L r (mw_U (mw_p s k j x)) := by
  rw [← mw_wf hc hf]
  exact mj_q_putf hM hd hp h10 (by rw [hty]; rcases hx with h | h <;> subst h <;> rfl) hfin (mw_fld hc hf)
theorem mw_q_iald (hM : mj_meth y = some M) {i : Int32} {k n : Nat} (hd : decode M.2.1 pc = .ok (.iaload, 1)) (hr : mw_rw k = some (.int, n)) (hi : mw_in n i = true) : mj_exec X d y pc L (.int i :: .ref k :: r) (mw_U s) = mj_exec X d y (pc + 1) L (.int (s.1 k i.toNatClampNeg) :: r) (mw_U s) := mj_q_iald hM hd (mw_row hr) (of_decide_eq_true hi)
theorem mw_q_bald (hM : mj_meth y = some M) {i : Int32} {k n : Nat} (hd : decode M.2.1 pc = .ok (.baload, 1)) (hr : mw_rw k = some (.byte, n)) (hi : mw_in n i = true) : mj_exec X d y pc L (.int i :: .ref k :: r) (mw_U s) = mj_exec X d y (pc + 1) L (.int (s.1 k i.toNatClampNeg) :: r) (mw_U s) := mj_q_bald hM hd (mw_row hr) (of_decide_eq_true hi)
theorem mw_q_zald (hM : mj_meth y = some M) {i : Int32} {k n : Nat} (hd : decode M.2.1 pc = .ok (.baload, 1)) (hr : mw_rw k = some (.boolean, n)) (hi : mw_in n i = true) : mj_exec X d y pc L (.int i :: .ref k :: r) (mw_U s) = mj_exec X d y (pc + 1) L (.int (s.1 k i.toNatClampNeg) :: r) (mw_U s) := mj_q_zald hM hd (mw_row hr) (of_decide_eq_true hi)
theorem mw_q_lald (hM : mj_meth y = some M) {i : Int32} {k n : Nat} (hd : decode M.2.1 pc = .ok (.laload, 1)) (hr : mw_ll k = some n) (hi : mw_in n i = true) : mj_exec X d y pc L (.int i :: .ref k :: r) (mw_U s) = mj_exec X d y (pc + 1) L (.long (s.2.1 k i.toNatClampNeg) :: r) (mw_U s) := mj_q_lald hM hd (mw_lrow hr) (of_decide_eq_true hi)
theorem mw_q_iakd (hM : mj_meth y = some M) {i : Int32} {k n : Nat} {f : Nat → Int32} (hd : decode M.2.1 pc = .ok (.iaload, 1)) (hk : ¬ k < 1000000) (hr : mj_ka X k = some (.int, n, f)) (hi : mw_in n i = true) : mj_exec X d y pc L (.int i :: .ref k :: r) w = mj_exec X d y (pc + 1) L (.int (f i.toNatClampNeg) :: r) w := mj_q_iakd hM hd hk hr (of_decide_eq_true hi)
theorem mw_q_bakd (hM : mj_meth y = some M) {i : Int32} {k n : Nat} {f : Nat → Int32} (hd : decode M.2.1 pc = .ok (.baload, 1)) (hk : ¬ k < 1000000) (hr : mj_ka X k = some (.byte, n, f)) (hi : mw_in n i = true) : mj_exec X d y pc L (.int i :: .ref k :: r) w = mj_exec X d y (pc + 1) L (.int (f i.toNatClampNeg) :: r) w := mj_q_bakd hM hd hk hr (of_decide_eq_true hi)
theorem mw_q_iast (hM : mj_meth y = some M) {i x : Int32} {k n : Nat} (hd : decode M.2.1 pc = .ok (.iastore, 1)) (hr : mw_rw k = some (.int, n)) (hi : mw_in n i = true) : mj_exec X d y pc L (.int x :: .int i :: .ref k :: r) (mw_U s) = mj_exec X d y (pc + 1) L r (mw_U (mw_p s k i.toNatClampNeg x)) := by
  rw [← mw_wi hr]; exact mj_q_iast hM hd (mw_row hr) (of_decide_eq_true hi)
theorem mw_q_bast (hM : mj_meth y = some M) {i x : Int32} {k n : Nat} (hd : decode M.2.1 pc = .ok (.bastore, 1)) (hr : mw_rw k = some (.byte, n)) (hi : mw_in n i = true) : mj_exec X d y pc L (.int x :: .int i :: .ref k :: r) (mw_U s) = mj_exec X d y (pc + 1) L r (mw_U (mw_p s k i.toNatClampNeg (vp_nar .byte x))) := by
  rw [← mw_wi hr]; exact mj_q_bast hM hd (mw_row hr) (of_decide_eq_true hi)
theorem mw_q_zast (hM : mj_meth y = some M) {i x : Int32} {k n : Nat} (hd : decode M.2.1 pc = .ok (.bastore, 1)) (hr : mw_rw k = some (.boolean, n)) (hi : mw_in n i = true) : mj_exec X d y pc L (.int x :: .int i :: .ref k :: r) (mw_U s) = mj_exec X d y (pc + 1) L r (mw_U (mw_p s k i.toNatClampNeg (vp_nar .boolean x))) := by
  rw [← mw_wi hr]; exact mj_q_zast hM hd (mw_row hr) (of_decide_eq_true hi)
theorem mw_q_last (hM : mj_meth y = some M) {i : Int32} {x : Int64} {k n : Nat} (hd : decode M.2.1 pc = .ok (.lastore, 1)) (hr : mw_ll k = some n) (hi : mw_in n i = true) : mj_exec X d y pc L (.long x :: .int i :: .ref k :: r) (mw_U s) = mj_exec X d y (pc + 1) L r (mw_U (mw_pl s k i.toNatClampNeg x)) := by
  rw [← mw_wl hr]; exact mj_q_last hM hd (mw_lrow hr) (of_decide_eq_true hi)
theorem mw_q_alen (hM : mj_meth y = some M) {k n : Nat} {ty : FieldType} (hd : decode M.2.1 pc = .ok (.arraylength, 1)) (hr : mw_rw k = some (ty, n)) : mj_exec X d y pc L (.ref k :: r) (mw_U s) = mj_exec X d y (pc + 1) L (.int (nI n) :: r) (mw_U s) := mj_q_alen hM hd (mw_row hr)
theorem mw_q_alenl (hM : mj_meth y = some M) {k n : Nat} (hd : decode M.2.1 pc = .ok (.arraylength, 1)) (hr : mw_ll k = some n) : mj_exec X d y pc L (.ref k :: r) (mw_U s) = mj_exec X d y (pc + 1) L (.int (nI n) :: r) (mw_U s) := mj_q_alenl hM hd (mw_lrow hr)
theorem mw_q_thr (hM : mj_meth y = some M) {ix en b : Nat} (hd : decode M.2.1 pc = .ok (.new ix, 3)) (hp : mj_pool M.2.2.2.2.2.1 ix = some (9, en, b)) (ht : mj_thr M pc en = true) (hh : M.2.2.2.2.2.2.2 = []) (hc : (st.map fun v => v.category).sum ≤ 8) : mj_exec X d y pc L st (mw_U s) = some (.inr en, mw_U (mw_x s)) := mj_q_thr hM hd hp ht hh hc
theorem mw_bk_of {z : Nat} {As rest : List Value} (hh : M.2.2.2.2.2.2.2 = []) : (mj_call X d z As w).bind (mj_back X (d + 1) y pc L rest M) = (mj_call X d z As w).bind (mj_bk X (d + 1) y (pc + 3) L rest) := by
  congr 1
  funext q
  obtain ⟨o, w2⟩ := q
  cases o with
  | inl v => rfl
  | inr e => simp only [mj_back, mj_bk, if_pos hh]
theorem mw_q_callv (hM : mj_meth y = some M) (hh : M.2.2.2.2.2.2.2 = []) {ix z n k : Nat} {As rest : List Value} {Z : mj_M} (hd : decode M.2.1 pc = .ok (.invokevirtual ix, 3)) (hp : mj_pool M.2.2.2.2.2.1 ix = some (2, z, 1)) (hZ : mj_meth z = some Z) (hZh : Z.2.2.2.2.2.2.2 = []) (hn : Z.2.2.2.2.1 = n) (hlen : n ≤ st.length) (hcat : ((st.drop (n + 1)).map fun v => v.category).sum ≤ 8) (hk : st[n]? = some (.ref k)) (hr : mj_rcv w k = some Z.2.2.2.2.2.1) (hA : .ref k :: (st.take n).reverse = As) (hrest : st.drop (n + 1) = rest) : mj_exec X (d + 1) y pc L st w = (mj_call X d z As w).bind (mj_bk X (d + 1) y (pc + 3) L rest) := by
  subst hn hA hrest
  rw [← mw_bk_of hh]
  refine mj_exec_call hM hd (show (if 3 = 3 then mj_invv (mj_pool M.2.2.2.2.2.1 ix) st w else none) = _ from ?_)
  rw [if_pos rfl, hp]
  simp only [mj_invv, hZ, if_pos hZh, mj_inv, if_true, hk, hr]
  rw [if_pos ⟨hlen, hcat⟩]
theorem mw_q_calli (hM : mj_meth y = some M) (hh : M.2.2.2.2.2.2.2 = []) {ix z n k q : Nat} {As rest : List Value} {Z : mj_M} (hd : decode M.2.1 pc = .ok (.invokespecial ix, 3)) (hp : mj_pool M.2.2.2.2.2.1 ix = some (q, z, 2)) (hq : q = 2 ∨ q = 13) (hZ : mj_meth z = some Z) (hZh : Z.2.2.2.2.2.2.2 = []) (hn : Z.2.2.2.2.1 = n) (hlen : n ≤ st.length) (hcat : ((st.drop (n + 1)).map fun v => v.category).sum ≤ 8) (hk : st[n]? = some (.ref k)) (hr : mj_rcv w k = some Z.2.2.2.2.2.1) (hA : .ref k :: (st.take n).reverse = As) (hrest : st.drop (n + 1) = rest) : mj_exec X (d + 1) y pc L st w = (mj_call X d z As w).bind (mj_bk X (d + 1) y (pc + 3) L rest) := by
  subst hn hA hrest
  rw [← mw_bk_of hh]
  refine mj_exec_call hM hd (show (if 3 = 3 then mj_invi (mj_pool M.2.2.2.2.2.1 ix) pc L st w else none) = _ from ?_)
  rw [if_pos rfl, hp]
  rcases hq with hq | hq <;> subst hq
  · simp only [mj_invi, hZ, if_pos hZh, mj_inv, if_true, hk, hr]
    rw [if_pos ⟨hlen, hcat⟩]
  · simp only [mj_invi, hZ, if_pos hZh, mj_inv, if_true, hk, hr]
    rw [if_pos ⟨hlen, hcat⟩]
theorem mw_q_calls (hM : mj_meth y = some M) (hh : M.2.2.2.2.2.2.2 = []) {ix z n : Nat} {As rest : List Value} {Z : mj_M} (hd : decode M.2.1 pc = .ok (.invokestatic ix, 3)) (hp : mj_pool M.2.2.2.2.2.1 ix = some (2, z, 0)) (hZ : mj_meth z = some Z) (hn : Z.2.2.2.2.1 = n) (hlen : n ≤ st.length) (hcat : ((st.drop n).map fun v => v.category).sum ≤ 8) (hA : (st.take n).reverse = As) (hrest : st.drop n = rest) : mj_exec X (d + 1) y pc L st w = (mj_call X d z As w).bind (mj_bk X (d + 1) y (pc + 3) L rest) := by
  subst hn hA hrest
  rw [← mw_bk_of hh]
  refine mj_exec_call hM hd (show (if 3 = 3 then mj_invs (mj_pool M.2.2.2.2.2.1 ix) pc L st w else none) = _ from ?_)
  rw [if_pos rfl, hp]
  simp only [mj_invs, mj_inv, hZ]
  simp only [Bool.false_eq_true, if_false, Nat.add_zero]
  rw [if_pos ⟨hlen, hcat⟩]
theorem mw_q_calln (hM : mj_meth y = some M) (hh : M.2.2.2.2.2.2.2 = []) {ix z n : Nat} {As rest : List Value} {Z : mj_M} (hd : decode M.2.1 pc = .ok (.invokestatic ix, 3)) (hp : mj_pool M.2.2.2.2.2.1 ix = some (13, z, 0)) (hZ : mj_meth z = some Z) (hZh : Z.2.2.2.2.2.2.2 = []) (hn : Z.2.2.2.2.1 = n) (hlen : n ≤ st.length) (hcat : ((st.drop n).map fun v => v.category).sum ≤ 8) (hA : (st.take n).reverse = As) (hrest : st.drop n = rest) : mj_exec X (d + 1) y pc L st w = (mj_call X d z As w).bind (mj_bk X (d + 1) y (pc + 3) L rest) := by
  subst hn hA hrest
  rw [← mw_bk_of hh]
  refine mj_exec_call hM hd (show (if 3 = 3 then mj_invs (mj_pool M.2.2.2.2.2.1 ix) pc L st w else none) = _ from ?_)
  rw [if_pos rfl, hp]
  simp only [mj_invs, mj_inv, hZ, if_pos hZh]
  simp only [Bool.false_eq_true, if_false, Nat.add_zero]
  rw [if_pos ⟨hlen, hcat⟩]
theorem mw_ent {z : Nat} {As : List Value} {Z : mj_M} {L : mj_L} (hZ : mj_meth z = some Z) (hl : (mj_sl As).length ≤ Z.2.2.1) (hE : mj_entry Z.2.2.1 As = L) : mj_call X d z As w = mj_exec X d z 0 L [] w := by
  subst hE
  unfold mj_call
  rw [hZ]
  simp only [if_pos hl]
theorem mw_q_lstore_n (hM : mj_meth y = some M) {k : Fin 4} {x : Int64} {L2 : mj_L} (hd : decode M.2.1 pc = .ok (.lstore_n k, 1)) (hk : (k : Nat) + 1 < L.length) (ho : mj_ok1 L k = true) (hno : L[(k : Nat) + 1]? = some none) (h2 : L.set k (some (.long x)) = L2) : mj_exec X d y pc L (.long x :: r) w = mj_exec X d y (pc + 1) L2 r w := by
  subst h2
  exact mj_xi hM hd (show (if 1 = 1 then mj_stl (pc + 1) L (.long x :: r) w k else none) = _ by rw [if_pos rfl]; simp only [mj_stl]; rw [if_pos ⟨hk, ho, hno⟩])
theorem mw_q_aald (hM : mj_meth y = some M) {i : Int32} {k v : Nat} {l : List Nat} (hd : decode M.2.1 pc = .ok (.aaload, 1)) (hr : mw_sh[k]? = some (.inr (.inr (.inr l)))) (hi : mw_in l.length i = true) (hv : l[i.toNatClampNeg]? = some v) : mj_exec X d y pc L (.int i :: .ref k :: r) (mw_U s) = mj_exec X d y (pc + 1) L (.ref v :: r) (mw_U s) := by
  refine mj_xi hM hd (show (if 1 = 1 then mj_aald pc L (.int i :: .ref k :: r) (mw_U s) else none) = _ from ?_)
  rw [if_pos rfl, mj_aald, if_pos (mw_lt hr), mw_at, hr]
  simp only [Option.map_some, mw_cell]
  rw [if_neg (of_decide_eq_true hi)]
  simp only [hv]
theorem mw_q_copy (hM : mj_meth y = some M) {ix a b ks kd n0 n1 : Nat} {n dp sp : Int32} (hd : decode M.2.1 pc = .ok (.invokestatic ix, 3)) (hp : mj_pool M.2.2.2.2.2.1 ix = some (4, a, b)) (hs : mw_rw ks = some (.int, n0)) (hdd : mw_rw kd = some (.int, n1)) (hcat : (r.map fun v => v.category).sum ≤ 8) (h1 : ¬ sp < 0) (h2 : ¬ dp < 0) (h3 : ¬ n < 0) (h4 : sp.toNatClampNeg + n.toNatClampNeg ≤ n0) (h5 : dp.toNatClampNeg + n.toNatClampNeg ≤ n1) : mj_exec X d y pc L (.int n :: .int dp :: .ref kd :: .int sp :: .ref ks :: r) (mw_U s) = mj_exec X d y (pc + 3) L r (mw_U (mw_c s ks kd sp.toNatClampNeg dp.toNatClampNeg n.toNatClampNeg)) := by
  have e1 := mw_rw_at hs
  have e2 := mw_rw_at hdd
  have f1 : (mw_U s).1[ks]? = some (.inl (.int, n0, .inl (s.1 ks))) := by rw [mw_at, e1]; rfl
  have f2 : (mw_U s).1[kd]? = some (.inl (.int, n1, .inl (s.1 kd))) := by rw [mw_at, e2]; rfl
  refine mj_xi hM hd (show (if 3 = 3 then mj_invs (mj_pool M.2.2.2.2.2.1 ix) pc L (.int n :: .int dp :: .ref kd :: .int sp :: .ref ks :: r) (mw_U s) else none) = _ from ?_)
  rw [if_pos rfl, hp]
  simp only [mj_invs, mj_copy]
  rw [if_pos ⟨mw_lt e1, mw_lt e2, hcat, h1, h2, h3⟩, f1, f2]
  simp only
  rw [if_pos ⟨h4, h5⟩]
  have e : va_cpy (s.1 ks) (s.1 kd) sp.toNatClampNeg dp.toNatClampNeg n.toNatClampNeg = (mw_c s ks kd sp.toNatClampNeg dp.toNatClampNeg n.toNatClampNeg).1 kd := by
    funext b
    show _ = (if kd = kd ∧ _ then _ else _)
    unfold va_cpy
    simp only [true_and]
  rw [e]
  rw [← mw_set (s := s) (t := mw_c s ks kd sp.toNatClampNeg dp.toNatClampNeg n.toNatClampNeg) e2 (fun i hi => ⟨by funext b; exact if_neg (fun (z : i = kd ∧ _) => hi z.1), rfl⟩) rfl]
  rfl
end MWQ
