/-! the instructions that touch the stack and the locals alone -/
section MJO
variable {p : Program} {l : Launch} {e : Env} {R : Room} {s : State} {m : MethodId} {args : Array Value} {below : List Frame} {meth : Method} {c : Code} {ct : Nat → Option Value} {X : mj_X} {D : va_G} {A : Nat → Prop} {Q : State → Prop} {ads0 : List Nat} {c0 s0 d len pc : Nat} {M : mj_M} {L : mj_L} {st : List Value} {w : mj_W} {r : mj_T4}
theorem mj_o_iconst {n : Int} (C : mj_Cx p l R s m args meth c ct X D A M d) (hd : decode M.2.1 pc = .ok (.iconst n, len)) (hs : mj_step X M (.iconst n) len pc L st w = some (.inl r)) (k : mj_G p l e R s m args below meth c ct D A Q ads0 c0 s0 r.1 r.2.1 r.2.2.1 r.2.2.2) : mj_G p l e R s m args below meth c ct D A Q ads0 c0 s0 pc L st w := by
  obtain ⟨rfl, hs_1⟩ := mj_ifn hs
  cases mj_nx_inv hs_1
  intro ws H locs cells slots ls rst ⟨hP, hD, hS, hw, hp, hl, hr, hn, h1, h2⟩
  exact lv_iconst C.1 C.2.1 hd rfl (k ws H locs cells slots ls _ ⟨hP, hD, hS, hw, hp, hl, mj_sr_mki hr, hn, h1, h2⟩)
theorem mj_o_bipush {n : Int} (C : mj_Cx p l R s m args meth c ct X D A M d) (hd : decode M.2.1 pc = .ok (.bipush n, len)) (hs : mj_step X M (.bipush n) len pc L st w = some (.inl r)) (k : mj_G p l e R s m args below meth c ct D A Q ads0 c0 s0 r.1 r.2.1 r.2.2.1 r.2.2.2) : mj_G p l e R s m args below meth c ct D A Q ads0 c0 s0 pc L st w := by
  obtain ⟨rfl, hs_1⟩ := mj_ifn hs
  cases mj_nx_inv hs_1
  intro ws H locs cells slots ls rst ⟨hP, hD, hS, hw, hp, hl, hr, hn, h1, h2⟩
  exact lv_bipush C.1 C.2.1 hd rfl (k ws H locs cells slots ls _ ⟨hP, hD, hS, hw, hp, hl, mj_sr_mki hr, hn, h1, h2⟩)
theorem mj_o_sipush {n : Int} (C : mj_Cx p l R s m args meth c ct X D A M d) (hd : decode M.2.1 pc = .ok (.sipush n, len)) (hs : mj_step X M (.sipush n) len pc L st w = some (.inl r)) (k : mj_G p l e R s m args below meth c ct D A Q ads0 c0 s0 r.1 r.2.1 r.2.2.1 r.2.2.2) : mj_G p l e R s m args below meth c ct D A Q ads0 c0 s0 pc L st w := by
  obtain ⟨rfl, hs_1⟩ := mj_ifn hs
  cases mj_nx_inv hs_1
  intro ws H locs cells slots ls rst ⟨hP, hD, hS, hw, hp, hl, hr, hn, h1, h2⟩
  exact lv_sipush C.1 C.2.1 hd rfl (k ws H locs cells slots ls _ ⟨hP, hD, hS, hw, hp, hl, mj_sr_mki hr, hn, h1, h2⟩)
theorem mj_o_lconst {n : Fin 2} (C : mj_Cx p l R s m args meth c ct X D A M d) (hd : decode M.2.1 pc = .ok (.lconst n, len)) (hs : mj_step X M (.lconst n) len pc L st w = some (.inl r)) (k : mj_G p l e R s m args below meth c ct D A Q ads0 c0 s0 r.1 r.2.1 r.2.2.1 r.2.2.2) : mj_G p l e R s m args below meth c ct D A Q ads0 c0 s0 pc L st w := by
  obtain ⟨rfl, hs_1⟩ := mj_ifn hs
  cases mj_nx_inv hs_1
  intro ws H locs cells slots ls rst ⟨hP, hD, hS, hw, hp, hl, hr, hn, h1, h2⟩
  exact lv_lconst C.1 C.2.1 hd rfl (k ws H locs cells slots ls _ ⟨hP, hD, hS, hw, hp, hl, mj_sr_mkl hr, hn, h1, h2⟩)
theorem mj_o_iload {i : Nat} (C : mj_Cx p l R s m args meth c ct X D A M d) (hd : decode M.2.1 pc = .ok (.iload i, len)) (hs : mj_step X M (.iload i) len pc L st w = some (.inl r)) (k : mj_G p l e R s m args below meth c ct D A Q ads0 c0 s0 r.1 r.2.1 r.2.2.1 r.2.2.2) : mj_G p l e R s m args below meth c ct D A Q ads0 c0 s0 pc L st w := by
  obtain ⟨rfl, hs_1⟩ := mj_ifn hs
  obtain ⟨x, hx, rfl⟩ := mj_ldi_inv hs_1
  intro ws H locs cells slots ls rst ⟨hP, hD, hS, hw, hp, hl, hr, hn, h1, h2⟩
  obtain ⟨r, e1, e2⟩ := mj_lr_at hl hx
  cases e1
  exact lv_iload C.1 C.2.1 hd e2 (k ws H locs cells slots ls _ ⟨hP, hD, hS, hw, hp, hl, mj_sr_mki hr, hn, h1, h2⟩)
theorem mj_o_iload_n {i : Fin 4} (C : mj_Cx p l R s m args meth c ct X D A M d) (hd : decode M.2.1 pc = .ok (.iload_n i, len)) (hs : mj_step X M (.iload_n i) len pc L st w = some (.inl r)) (k : mj_G p l e R s m args below meth c ct D A Q ads0 c0 s0 r.1 r.2.1 r.2.2.1 r.2.2.2) : mj_G p l e R s m args below meth c ct D A Q ads0 c0 s0 pc L st w := by
  obtain ⟨rfl, hs_1⟩ := mj_ifn hs
  obtain ⟨x, hx, rfl⟩ := mj_ldi_inv hs_1
  intro ws H locs cells slots ls rst ⟨hP, hD, hS, hw, hp, hl, hr, hn, h1, h2⟩
  obtain ⟨r, e1, e2⟩ := mj_lr_at hl hx
  cases e1
  exact lv_iload_n C.1 C.2.1 hd rfl e2 (k ws H locs cells slots ls _ ⟨hP, hD, hS, hw, hp, hl, mj_sr_mki hr, hn, h1, h2⟩)
theorem mj_o_lload {i : Nat} (C : mj_Cx p l R s m args meth c ct X D A M d) (hd : decode M.2.1 pc = .ok (.lload i, len)) (hs : mj_step X M (.lload i) len pc L st w = some (.inl r)) (k : mj_G p l e R s m args below meth c ct D A Q ads0 c0 s0 r.1 r.2.1 r.2.2.1 r.2.2.2) : mj_G p l e R s m args below meth c ct D A Q ads0 c0 s0 pc L st w := by
  obtain ⟨rfl, hs_1⟩ := mj_ifn hs
  obtain ⟨x, hx, rfl⟩ := mj_ldl_inv hs_1
  intro ws H locs cells slots ls rst ⟨hP, hD, hS, hw, hp, hl, hr, hn, h1, h2⟩
  obtain ⟨r, e1, e2⟩ := mj_lr_at hl hx
  cases e1
  exact lv_lload C.1 C.2.1 hd e2 (k ws H locs cells slots ls _ ⟨hP, hD, hS, hw, hp, hl, mj_sr_mkl hr, hn, h1, h2⟩)
theorem mj_o_lload_n {i : Fin 4} (C : mj_Cx p l R s m args meth c ct X D A M d) (hd : decode M.2.1 pc = .ok (.lload_n i, len)) (hs : mj_step X M (.lload_n i) len pc L st w = some (.inl r)) (k : mj_G p l e R s m args below meth c ct D A Q ads0 c0 s0 r.1 r.2.1 r.2.2.1 r.2.2.2) : mj_G p l e R s m args below meth c ct D A Q ads0 c0 s0 pc L st w := by
  obtain ⟨rfl, hs_1⟩ := mj_ifn hs
  obtain ⟨x, hx, rfl⟩ := mj_ldl_inv hs_1
  intro ws H locs cells slots ls rst ⟨hP, hD, hS, hw, hp, hl, hr, hn, h1, h2⟩
  obtain ⟨r, e1, e2⟩ := mj_lr_at hl hx
  cases e1
  exact lv_lload_n C.1 C.2.1 hd rfl e2 (k ws H locs cells slots ls _ ⟨hP, hD, hS, hw, hp, hl, mj_sr_mkl hr, hn, h1, h2⟩)
theorem mj_o_aload {i : Nat} (C : mj_Cx p l R s m args meth c ct X D A M d) (hd : decode M.2.1 pc = .ok (.aload i, len)) (hs : mj_step X M (.aload i) len pc L st w = some (.inl r)) (k : mj_G p l e R s m args below meth c ct D A Q ads0 c0 s0 r.1 r.2.1 r.2.2.1 r.2.2.2) : mj_G p l e R s m args below meth c ct D A Q ads0 c0 s0 pc L st w := by
  obtain ⟨rfl, hs_1⟩ := mj_ifn hs
  obtain ⟨x, hx, hx3, rfl⟩ := mj_lda_inv hs_1
  intro ws H locs cells slots ls rst ⟨hP, hD, hS, hw, hp, hl, hr, hn, h1, h2⟩
  obtain ⟨r, e1, e2⟩ := mj_lr_at hl hx
  obtain ⟨a, rfl⟩ := mj_rv_ref C.2.2.2.2.1.1 e1 hx3
  exact lv_aload C.1 C.2.1 hd e2 (k ws H locs cells slots ls _ ⟨hP, hD, hS, hw, hp, hl, mj_sr_mk e1 hr, hn, h1, h2⟩)
theorem mj_o_aload_n {i : Fin 4} (C : mj_Cx p l R s m args meth c ct X D A M d) (hd : decode M.2.1 pc = .ok (.aload_n i, len)) (hs : mj_step X M (.aload_n i) len pc L st w = some (.inl r)) (k : mj_G p l e R s m args below meth c ct D A Q ads0 c0 s0 r.1 r.2.1 r.2.2.1 r.2.2.2) : mj_G p l e R s m args below meth c ct D A Q ads0 c0 s0 pc L st w := by
  obtain ⟨rfl, hs_1⟩ := mj_ifn hs
  obtain ⟨x, hx, hx3, rfl⟩ := mj_lda_inv hs_1
  intro ws H locs cells slots ls rst ⟨hP, hD, hS, hw, hp, hl, hr, hn, h1, h2⟩
  obtain ⟨r, e1, e2⟩ := mj_lr_at hl hx
  obtain ⟨a, rfl⟩ := mj_rv_ref C.2.2.2.2.1.1 e1 hx3
  exact lv_aload_n C.1 C.2.1 hd rfl e2 (k ws H locs cells slots ls _ ⟨hP, hD, hS, hw, hp, hl, mj_sr_mk e1 hr, hn, h1, h2⟩)
theorem mj_lr_store {ads : List Nat} {i : Nat} {v r : Value} {lv : List (Nat × Value)} (h2 : ∀ (j : Nat) (v : Value), L[j]? = some (some v) → ∃ r, mj_rv ct ads v = some r ∧ (j, r) ∈ lv) (hc : mj_okct ct) (hi : i < L.length) (hok : mj_ok1 L i = true) (hv : mj_rv ct ads v = some r) (ls' : Array Slot)
    (h' : lv_has ls' L.length ((i, r) :: lv.filter (fun q => !(q.1 == i) && !(q.1 + 1 == i && q.2.category == 2)))) : mj_lr ct ads (L.set i (some v)) ls' := by
  refine ⟨_, by rw [List.length_set]; exact h', fun j v' hj => ?_⟩
  by_cases hij : i = j
  · subst hij
    rw [List.getElem?_set_self hi] at hj
    cases hj
    exact ⟨r, hv, List.mem_cons_self⟩
  · rw [List.getElem?_set_ne hij] at hj
    obtain ⟨r', e1, e2⟩ := h2 j v' hj
    refine ⟨r', e1, List.mem_cons_of_mem _ (List.mem_filter.mpr ⟨e2, ?_⟩)⟩
    have hcat := mj_rv_cat hc e1
    have hji : ¬ j = i := fun z => hij z.symm
    simp only [Bool.and_eq_true, Bool.not_eq_true', beq_eq_false_iff_ne, ne_eq, Bool.and_eq_false_iff]
    refine ⟨hji, ?_⟩
    by_cases hj1 : j + 1 = i
    · right
      subst hj1
      simp only [mj_ok1, hj] at hok
      rw [hcat]
      cases v' <;> simp_all [Value.category]
    · left; exact hj1
theorem mj_lr_drop {ads : List Nat} {i : Nat} {r : Value} {lv : List (Nat × Value)} (h2 : ∀ (j : Nat) (v : Value), L[j]? = some (some v) → ∃ r, mj_rv ct ads v = some r ∧ (j, r) ∈ lv) (hc : mj_okct ct) (hi : i < L.length) (hok : mj_ok1 L i = true) (ls' : Array Slot)
    (h' : lv_has ls' L.length ((i, r) :: lv.filter (fun q => !(q.1 == i) && !(q.1 + 1 == i && q.2.category == 2)))) : mj_lr ct ads (L.set i none) ls' := by
  refine ⟨_, by rw [List.length_set]; exact h', fun j v' hj => ?_⟩
  by_cases hij : i = j
  · subst hij
    rw [List.getElem?_set_self hi] at hj
    cases hj
  · rw [List.getElem?_set_ne hij] at hj
    obtain ⟨r', e1, e2⟩ := h2 j v' hj
    refine ⟨r', e1, List.mem_cons_of_mem _ (List.mem_filter.mpr ⟨e2, ?_⟩)⟩
    have hcat := mj_rv_cat hc e1
    have hji : ¬ j = i := fun z => hij z.symm
    simp only [Bool.and_eq_true, Bool.not_eq_true', beq_eq_false_iff_ne, ne_eq, Bool.and_eq_false_iff]
    refine ⟨hji, ?_⟩
    by_cases hj1 : j + 1 = i
    · right
      subst hj1
      simp only [mj_ok1, hj] at hok
      rw [hcat]
      cases v' <;> simp_all [Value.category]
    · left; exact hj1
theorem mj_sti_inv {i : Nat} (h : mj_sti pc L st w i = some (.inl r)) : ∃ x t, st = .int x :: t ∧ i < L.length ∧ mj_ok1 L i = true ∧ r = (pc, L.set i (some (.int x)), t, w) := by
  unfold mj_sti at h
  split at h
  · obtain ⟨h1, h2, h3⟩ := mj_sto_inv h
    exact ⟨_, _, rfl, h1, h2, h3⟩
  · cases h
theorem mj_sta_inv {i : Nat} (h : mj_sta pc L st w i = some (.inl r)) : ∃ x t, st = .ref x :: t ∧ x ≠ 1000300 ∧ i < L.length ∧ mj_ok1 L i = true ∧ r = (pc, L.set i (some (.ref x)), t, w) := by
  unfold mj_sta at h
  split at h
  · obtain ⟨h0, h⟩ := mj_ifm h
    obtain ⟨h1, h2, h3⟩ := mj_sto_inv h
    exact ⟨_, _, rfl, h0, h1, h2, h3⟩
  · cases h
theorem mj_o_istore {i : Nat} (C : mj_Cx p l R s m args meth c ct X D A M d) (hd : decode M.2.1 pc = .ok (.istore i, len)) (hs : mj_step X M (.istore i) len pc L st w = some (.inl r)) (k : mj_G p l e R s m args below meth c ct D A Q ads0 c0 s0 r.1 r.2.1 r.2.2.1 r.2.2.2) : mj_G p l e R s m args below meth c ct D A Q ads0 c0 s0 pc L st w := by
  obtain ⟨rfl, hs_1⟩ := mj_ifn hs
  obtain ⟨x, t, rfl, hi, hok, rfl⟩ := mj_sti_inv hs_1
  intro ws H locs cells slots ls rst ⟨hP, hD, hS, hw, hp, hl, hr, hn, h1, h2⟩
  obtain ⟨t1, rfl, hr_1⟩ := mj_sr_int hr
  obtain ⟨lv, l1, l2⟩ := hl
  exact lv_istore C.1 C.2.1 hd l1 hi rfl (fun ls' h' => k ws H locs cells slots ls' _ ⟨hP, hD, hS, hw, hp, mj_lr_store l2 C.2.2.2.2.1.1 hi hok rfl ls' h', hr_1, by rw [List.length_set]; exact hn, h1, h2⟩)
theorem mj_o_istore_n {i : Fin 4} (C : mj_Cx p l R s m args meth c ct X D A M d) (hd : decode M.2.1 pc = .ok (.istore_n i, len)) (hs : mj_step X M (.istore_n i) len pc L st w = some (.inl r)) (k : mj_G p l e R s m args below meth c ct D A Q ads0 c0 s0 r.1 r.2.1 r.2.2.1 r.2.2.2) : mj_G p l e R s m args below meth c ct D A Q ads0 c0 s0 pc L st w := by
  obtain ⟨rfl, hs_1⟩ := mj_ifn hs
  obtain ⟨x, t, rfl, hi, hok, rfl⟩ := mj_sti_inv hs_1
  intro ws H locs cells slots ls rst ⟨hP, hD, hS, hw, hp, hl, hr, hn, h1, h2⟩
  obtain ⟨t1, rfl, hr_1⟩ := mj_sr_int hr
  obtain ⟨lv, l1, l2⟩ := hl
  exact lv_istore_n C.1 C.2.1 hd rfl l1 hi rfl (fun ls' h' => k ws H locs cells slots ls' _ ⟨hP, hD, hS, hw, hp, mj_lr_store l2 C.2.2.2.2.1.1 hi hok rfl ls' h', hr_1, by rw [List.length_set]; exact hn, h1, h2⟩)
theorem mj_stl_inv {i : Nat} (h : mj_stl pc L st w i = some (.inl r)) : ∃ x t, st = .long x :: t ∧ i + 1 < L.length ∧ mj_ok1 L i = true ∧ L[i + 1]? = some none ∧ r = (pc, L.set i (some (.long x)), t, w) := by
  unfold mj_stl at h
  split at h
  · obtain ⟨⟨h1, h2, h3⟩, h4⟩ := mj_ifn h
    cases h4
    exact ⟨_, _, rfl, h1, h2, h3, rfl⟩
  · cases h
theorem mj_lr_storel {ads : List Nat} {i : Nat} {v r : Value} {lv : List (Nat × Value)} (h2 : ∀ (j : Nat) (v : Value), L[j]? = some (some v) → ∃ r, mj_rv ct ads v = some r ∧ (j, r) ∈ lv) (hc : mj_okct ct) (hi : i < L.length) (hok : mj_ok1 L i = true) (hno : L[i + 1]? = some none) (hv : mj_rv ct ads v = some r) (ls' : Array Slot)
    (h' : lv_has ls' L.length ((i, r) :: lv.filter (fun q => !(q.1 == i) && (!(q.1 == i + 1) && !(q.1 + 1 == i && q.2.category == 2))))) : mj_lr ct ads (L.set i (some v)) ls' := by
  refine ⟨_, by rw [List.length_set]; exact h', fun j v' hj => ?_⟩
  by_cases hij : i = j
  · subst hij
    rw [List.getElem?_set_self hi] at hj
    cases hj
    exact ⟨r, hv, List.mem_cons_self⟩
  · rw [List.getElem?_set_ne hij] at hj
    obtain ⟨r', e1, e2⟩ := h2 j v' hj
    refine ⟨r', e1, List.mem_cons_of_mem _ (List.mem_filter.mpr ⟨e2, ?_⟩)⟩
    have hcat := mj_rv_cat hc e1
    have hji : ¬ j = i := fun z => hij z.symm
    have hji1 : ¬ j = i + 1 := fun z => by subst z; rw [hno] at hj; cases hj
    simp only [Bool.and_eq_true, Bool.not_eq_true', beq_eq_false_iff_ne, ne_eq, Bool.and_eq_false_iff]
    refine ⟨hji, hji1, ?_⟩
    by_cases hj1 : j + 1 = i
    · right
      subst hj1
      simp only [mj_ok1, hj] at hok
      rw [hcat]
      cases v' <;> simp_all [Value.category]
    · left; exact hj1
theorem mj_o_lstore_n {i : Fin 4} (C : mj_Cx p l R s m args meth c ct X D A M d) (hd : decode M.2.1 pc = .ok (.lstore_n i, len)) (hs : mj_step X M (.lstore_n i) len pc L st w = some (.inl r)) (k : mj_G p l e R s m args below meth c ct D A Q ads0 c0 s0 r.1 r.2.1 r.2.2.1 r.2.2.2) : mj_G p l e R s m args below meth c ct D A Q ads0 c0 s0 pc L st w := by
  obtain ⟨rfl, hs_1⟩ := mj_ifn hs
  obtain ⟨x, t, rfl, hi, hok, hno, rfl⟩ := mj_stl_inv hs_1
  intro ws H locs cells slots ls rst ⟨hP, hD, hS, hw, hp, hl, hr, hn, h1, h2⟩
  obtain ⟨t1, rfl, hr_1⟩ := mj_sr_long hr
  obtain ⟨lv, l1, l2⟩ := hl
  exact lv_lstore_n C.1 C.2.1 hd rfl l1 hi rfl (fun ls' h' => k ws H locs cells slots ls' _ ⟨hP, hD, hS, hw, hp, mj_lr_storel l2 C.2.2.2.2.1.1 (by omega) hok hno rfl ls' h', hr_1, by rw [List.length_set]; exact hn, h1, h2⟩)
theorem mj_o_astore {i : Nat} (C : mj_Cx p l R s m args meth c ct X D A M d) (hd : decode M.2.1 pc = .ok (.astore i, len)) (hs : mj_step X M (.astore i) len pc L st w = some (.inl r)) (k : mj_G p l e R s m args below meth c ct D A Q ads0 c0 s0 r.1 r.2.1 r.2.2.1 r.2.2.2) : mj_G p l e R s m args below meth c ct D A Q ads0 c0 s0 pc L st w := by
  obtain ⟨rfl, hs_1⟩ := mj_ifn hs
  obtain ⟨x, t, rfl, hx3, hi, hok, rfl⟩ := mj_sta_inv hs_1
  intro ws H locs cells slots ls rst ⟨hP, hD, hS, hw, hp, hl, hr, hn, h1, h2⟩
  obtain ⟨rr, t1, rfl, e1, hr_1⟩ := mj_sr_cons hr
  obtain ⟨a, rfl⟩ := mj_rv_ref C.2.2.2.2.1.1 e1 hx3
  obtain ⟨lv, l1, l2⟩ := hl
  exact lv_astore C.1 C.2.1 hd l1 hi rfl (fun ls' h' => k ws H locs cells slots ls' _ ⟨hP, hD, hS, hw, hp, mj_lr_store l2 C.2.2.2.2.1.1 hi hok e1 ls' h', hr_1, by rw [List.length_set]; exact hn, h1, h2⟩)
theorem mj_o_astore_n {i : Fin 4} (C : mj_Cx p l R s m args meth c ct X D A M d) (hd : decode M.2.1 pc = .ok (.astore_n i, len)) (hs : mj_step X M (.astore_n i) len pc L st w = some (.inl r)) (k : mj_G p l e R s m args below meth c ct D A Q ads0 c0 s0 r.1 r.2.1 r.2.2.1 r.2.2.2) : mj_G p l e R s m args below meth c ct D A Q ads0 c0 s0 pc L st w := by
  obtain ⟨rfl, hs_1⟩ := mj_ifn hs
  obtain ⟨x, t, rfl, hx3, hi, hok, rfl⟩ := mj_sta_inv hs_1
  intro ws H locs cells slots ls rst ⟨hP, hD, hS, hw, hp, hl, hr, hn, h1, h2⟩
  obtain ⟨rr, t1, rfl, e1, hr_1⟩ := mj_sr_cons hr
  obtain ⟨a, rfl⟩ := mj_rv_ref C.2.2.2.2.1.1 e1 hx3
  obtain ⟨lv, l1, l2⟩ := hl
  exact lv_astore_n C.1 C.2.1 hd rfl l1 hi rfl (fun ls' h' => k ws H locs cells slots ls' _ ⟨hP, hD, hS, hw, hp, mj_lr_store l2 C.2.2.2.2.1.1 hi hok e1 ls' h', hr_1, by rw [List.length_set]; exact hn, h1, h2⟩)
theorem mj_o_iinc {i : Nat} {n : Int} (C : mj_Cx p l R s m args meth c ct X D A M d) (hd : decode M.2.1 pc = .ok (.iinc i n, len)) (hs : mj_step X M (.iinc i n) len pc L st w = some (.inl r)) (k : mj_G p l e R s m args below meth c ct D A Q ads0 c0 s0 r.1 r.2.1 r.2.2.1 r.2.2.2) : mj_G p l e R s m args below meth c ct D A Q ads0 c0 s0 pc L st w := by
  obtain ⟨rfl, hs_1⟩ := mj_ifn hs
  split at hs_1
  · next x hx =>
    obtain ⟨hi, hok, rfl⟩ := mj_sto_inv hs_1
    intro ws H locs cells slots ls rst ⟨hP, hD, hS, hw, hp, hl, hr, hn, h1, h2⟩
    obtain ⟨lv, l1, l2⟩ := hl
    obtain ⟨rr, e1, e2⟩ := l2 i (.int x) hx
    cases e1
    obtain ⟨kk, hkk⟩ := List.getElem?_of_mem e2
    exact lv_iinc (k := kk) C.1 C.2.1 hd l1 hkk rfl hi rfl (fun ls' h' => k ws H locs cells slots ls' _ ⟨hP, hD, hS, hw, hp, mj_lr_store l2 C.2.2.2.2.1.1 hi hok rfl ls' h', hr, by rw [List.length_set]; exact hn, h1, h2⟩)
  · cases hs_1
theorem mj_o_iadd (C : mj_Cx p l R s m args meth c ct X D A M d) (hd : decode M.2.1 pc = .ok (.iadd, len)) (hs : mj_step X M (.iadd) len pc L st w = some (.inl r)) (k : mj_G p l e R s m args below meth c ct D A Q ads0 c0 s0 r.1 r.2.1 r.2.2.1 r.2.2.2) : mj_G p l e R s m args below meth c ct D A Q ads0 c0 s0 pc L st w := by
  obtain ⟨rfl, hs_1⟩ := mj_ifn hs
  obtain ⟨x, y, t, rfl, rfl⟩ := mj_bin_inv hs_1
  intro ws H locs cells slots ls rst ⟨hP, hD, hS, hw, hp, hl, hr, hn, h1, h2⟩
  obtain ⟨t1, rfl, hr_1⟩ := mj_sr_int hr
  obtain ⟨t2, rfl, hr_2⟩ := mj_sr_int hr_1
  exact lv_iadd C.1 C.2.1 hd (k ws H locs cells slots ls _ ⟨hP, hD, hS, hw, hp, hl, mj_sr_mki hr_2, hn, h1, h2⟩)
theorem mj_o_isub (C : mj_Cx p l R s m args meth c ct X D A M d) (hd : decode M.2.1 pc = .ok (.isub, len)) (hs : mj_step X M (.isub) len pc L st w = some (.inl r)) (k : mj_G p l e R s m args below meth c ct D A Q ads0 c0 s0 r.1 r.2.1 r.2.2.1 r.2.2.2) : mj_G p l e R s m args below meth c ct D A Q ads0 c0 s0 pc L st w := by
  obtain ⟨rfl, hs_1⟩ := mj_ifn hs
  obtain ⟨x, y, t, rfl, rfl⟩ := mj_bin_inv hs_1
  intro ws H locs cells slots ls rst ⟨hP, hD, hS, hw, hp, hl, hr, hn, h1, h2⟩
  obtain ⟨t1, rfl, hr_1⟩ := mj_sr_int hr
  obtain ⟨t2, rfl, hr_2⟩ := mj_sr_int hr_1
  exact lv_isub C.1 C.2.1 hd (k ws H locs cells slots ls _ ⟨hP, hD, hS, hw, hp, hl, mj_sr_mki hr_2, hn, h1, h2⟩)
theorem mj_o_imul (C : mj_Cx p l R s m args meth c ct X D A M d) (hd : decode M.2.1 pc = .ok (.imul, len)) (hs : mj_step X M (.imul) len pc L st w = some (.inl r)) (k : mj_G p l e R s m args below meth c ct D A Q ads0 c0 s0 r.1 r.2.1 r.2.2.1 r.2.2.2) : mj_G p l e R s m args below meth c ct D A Q ads0 c0 s0 pc L st w := by
  obtain ⟨rfl, hs_1⟩ := mj_ifn hs
  obtain ⟨x, y, t, rfl, rfl⟩ := mj_bin_inv hs_1
  intro ws H locs cells slots ls rst ⟨hP, hD, hS, hw, hp, hl, hr, hn, h1, h2⟩
  obtain ⟨t1, rfl, hr_1⟩ := mj_sr_int hr
  obtain ⟨t2, rfl, hr_2⟩ := mj_sr_int hr_1
  exact lv_imul C.1 C.2.1 hd (k ws H locs cells slots ls _ ⟨hP, hD, hS, hw, hp, hl, mj_sr_mki hr_2, hn, h1, h2⟩)
theorem mj_o_iand (C : mj_Cx p l R s m args meth c ct X D A M d) (hd : decode M.2.1 pc = .ok (.iand, len)) (hs : mj_step X M (.iand) len pc L st w = some (.inl r)) (k : mj_G p l e R s m args below meth c ct D A Q ads0 c0 s0 r.1 r.2.1 r.2.2.1 r.2.2.2) : mj_G p l e R s m args below meth c ct D A Q ads0 c0 s0 pc L st w := by
  obtain ⟨rfl, hs_1⟩ := mj_ifn hs
  obtain ⟨x, y, t, rfl, rfl⟩ := mj_bin_inv hs_1
  intro ws H locs cells slots ls rst ⟨hP, hD, hS, hw, hp, hl, hr, hn, h1, h2⟩
  obtain ⟨t1, rfl, hr_1⟩ := mj_sr_int hr
  obtain ⟨t2, rfl, hr_2⟩ := mj_sr_int hr_1
  exact lv_iand C.1 C.2.1 hd (k ws H locs cells slots ls _ ⟨hP, hD, hS, hw, hp, hl, mj_sr_mki hr_2, hn, h1, h2⟩)
theorem mj_o_ior (C : mj_Cx p l R s m args meth c ct X D A M d) (hd : decode M.2.1 pc = .ok (.ior, len)) (hs : mj_step X M (.ior) len pc L st w = some (.inl r)) (k : mj_G p l e R s m args below meth c ct D A Q ads0 c0 s0 r.1 r.2.1 r.2.2.1 r.2.2.2) : mj_G p l e R s m args below meth c ct D A Q ads0 c0 s0 pc L st w := by
  obtain ⟨rfl, hs_1⟩ := mj_ifn hs
  obtain ⟨x, y, t, rfl, rfl⟩ := mj_bin_inv hs_1
  intro ws H locs cells slots ls rst ⟨hP, hD, hS, hw, hp, hl, hr, hn, h1, h2⟩
  obtain ⟨t1, rfl, hr_1⟩ := mj_sr_int hr
  obtain ⟨t2, rfl, hr_2⟩ := mj_sr_int hr_1
  exact lv_ior C.1 C.2.1 hd (k ws H locs cells slots ls _ ⟨hP, hD, hS, hw, hp, hl, mj_sr_mki hr_2, hn, h1, h2⟩)
theorem mj_o_ixor (C : mj_Cx p l R s m args meth c ct X D A M d) (hd : decode M.2.1 pc = .ok (.ixor, len)) (hs : mj_step X M (.ixor) len pc L st w = some (.inl r)) (k : mj_G p l e R s m args below meth c ct D A Q ads0 c0 s0 r.1 r.2.1 r.2.2.1 r.2.2.2) : mj_G p l e R s m args below meth c ct D A Q ads0 c0 s0 pc L st w := by
  obtain ⟨rfl, hs_1⟩ := mj_ifn hs
  obtain ⟨x, y, t, rfl, rfl⟩ := mj_bin_inv hs_1
  intro ws H locs cells slots ls rst ⟨hP, hD, hS, hw, hp, hl, hr, hn, h1, h2⟩
  obtain ⟨t1, rfl, hr_1⟩ := mj_sr_int hr
  obtain ⟨t2, rfl, hr_2⟩ := mj_sr_int hr_1
  exact lv_ixor C.1 C.2.1 hd (k ws H locs cells slots ls _ ⟨hP, hD, hS, hw, hp, hl, mj_sr_mki hr_2, hn, h1, h2⟩)
theorem mj_o_ishl (C : mj_Cx p l R s m args meth c ct X D A M d) (hd : decode M.2.1 pc = .ok (.ishl, len)) (hs : mj_step X M (.ishl) len pc L st w = some (.inl r)) (k : mj_G p l e R s m args below meth c ct D A Q ads0 c0 s0 r.1 r.2.1 r.2.2.1 r.2.2.2) : mj_G p l e R s m args below meth c ct D A Q ads0 c0 s0 pc L st w := by
  obtain ⟨rfl, hs_1⟩ := mj_ifn hs
  obtain ⟨x, y, t, rfl, rfl⟩ := mj_bin_inv hs_1
  intro ws H locs cells slots ls rst ⟨hP, hD, hS, hw, hp, hl, hr, hn, h1, h2⟩
  obtain ⟨t1, rfl, hr_1⟩ := mj_sr_int hr
  obtain ⟨t2, rfl, hr_2⟩ := mj_sr_int hr_1
  exact lv_ishl C.1 C.2.1 hd (k ws H locs cells slots ls _ ⟨hP, hD, hS, hw, hp, hl, mj_sr_mki hr_2, hn, h1, h2⟩)
theorem mj_o_ishr (C : mj_Cx p l R s m args meth c ct X D A M d) (hd : decode M.2.1 pc = .ok (.ishr, len)) (hs : mj_step X M (.ishr) len pc L st w = some (.inl r)) (k : mj_G p l e R s m args below meth c ct D A Q ads0 c0 s0 r.1 r.2.1 r.2.2.1 r.2.2.2) : mj_G p l e R s m args below meth c ct D A Q ads0 c0 s0 pc L st w := by
  obtain ⟨rfl, hs_1⟩ := mj_ifn hs
  obtain ⟨x, y, t, rfl, rfl⟩ := mj_bin_inv hs_1
  intro ws H locs cells slots ls rst ⟨hP, hD, hS, hw, hp, hl, hr, hn, h1, h2⟩
  obtain ⟨t1, rfl, hr_1⟩ := mj_sr_int hr
  obtain ⟨t2, rfl, hr_2⟩ := mj_sr_int hr_1
  exact lv_ishr C.1 C.2.1 hd (k ws H locs cells slots ls _ ⟨hP, hD, hS, hw, hp, hl, mj_sr_mki hr_2, hn, h1, h2⟩)
theorem mj_o_iushr (C : mj_Cx p l R s m args meth c ct X D A M d) (hd : decode M.2.1 pc = .ok (.iushr, len)) (hs : mj_step X M (.iushr) len pc L st w = some (.inl r)) (k : mj_G p l e R s m args below meth c ct D A Q ads0 c0 s0 r.1 r.2.1 r.2.2.1 r.2.2.2) : mj_G p l e R s m args below meth c ct D A Q ads0 c0 s0 pc L st w := by
  obtain ⟨rfl, hs_1⟩ := mj_ifn hs
  obtain ⟨x, y, t, rfl, rfl⟩ := mj_bin_inv hs_1
  intro ws H locs cells slots ls rst ⟨hP, hD, hS, hw, hp, hl, hr, hn, h1, h2⟩
  obtain ⟨t1, rfl, hr_1⟩ := mj_sr_int hr
  obtain ⟨t2, rfl, hr_2⟩ := mj_sr_int hr_1
  exact lv_iushr C.1 C.2.1 hd rfl (k ws H locs cells slots ls _ ⟨hP, hD, hS, hw, hp, hl, mj_sr_mki hr_2, hn, h1, h2⟩)
theorem mj_o_idiv (C : mj_Cx p l R s m args meth c ct X D A M d) (hd : decode M.2.1 pc = .ok (.idiv, len)) (hs : mj_step X M (.idiv) len pc L st w = some (.inl r)) (k : mj_G p l e R s m args below meth c ct D A Q ads0 c0 s0 r.1 r.2.1 r.2.2.1 r.2.2.2) : mj_G p l e R s m args below meth c ct D A Q ads0 c0 s0 pc L st w := by
  obtain ⟨rfl, hs_1⟩ := mj_ifn hs
  split at hs_1
  · obtain ⟨hne, hs_2⟩ := mj_ifm hs_1
    obtain ⟨x, y, t, e, rfl⟩ := mj_bin_inv hs_2
    cases e
    intro ws H locs cells slots ls rst ⟨hP, hD, hS, hw, hp, hl, hr, hn, h1, h2⟩
    obtain ⟨t1, rfl, hr_1⟩ := mj_sr_int hr
    obtain ⟨t2, rfl, hr_2⟩ := mj_sr_int hr_1
    exact lv_idiv C.1 C.2.1 hd hne (k ws H locs cells slots ls _ ⟨hP, hD, hS, hw, hp, hl, mj_sr_mki hr_2, hn, h1, h2⟩)
  · cases hs_1
theorem mj_o_irem (C : mj_Cx p l R s m args meth c ct X D A M d) (hd : decode M.2.1 pc = .ok (.irem, len)) (hs : mj_step X M (.irem) len pc L st w = some (.inl r)) (k : mj_G p l e R s m args below meth c ct D A Q ads0 c0 s0 r.1 r.2.1 r.2.2.1 r.2.2.2) : mj_G p l e R s m args below meth c ct D A Q ads0 c0 s0 pc L st w := by
  obtain ⟨rfl, hs_1⟩ := mj_ifn hs
  split at hs_1
  · obtain ⟨hne, hs_2⟩ := mj_ifm hs_1
    obtain ⟨x, y, t, e, rfl⟩ := mj_bin_inv hs_2
    cases e
    intro ws H locs cells slots ls rst ⟨hP, hD, hS, hw, hp, hl, hr, hn, h1, h2⟩
    obtain ⟨t1, rfl, hr_1⟩ := mj_sr_int hr
    obtain ⟨t2, rfl, hr_2⟩ := mj_sr_int hr_1
    exact lv_irem C.1 C.2.1 hd hne (k ws H locs cells slots ls _ ⟨hP, hD, hS, hw, hp, hl, mj_sr_mki hr_2, hn, h1, h2⟩)
  · cases hs_1
theorem mj_o_ineg (C : mj_Cx p l R s m args meth c ct X D A M d) (hd : decode M.2.1 pc = .ok (.ineg, len)) (hs : mj_step X M (.ineg) len pc L st w = some (.inl r)) (k : mj_G p l e R s m args below meth c ct D A Q ads0 c0 s0 r.1 r.2.1 r.2.2.1 r.2.2.2) : mj_G p l e R s m args below meth c ct D A Q ads0 c0 s0 pc L st w := by
  obtain ⟨rfl, hs_1⟩ := mj_ifn hs
  obtain ⟨x, t, rfl, rfl⟩ := mj_un_inv hs_1
  intro ws H locs cells slots ls rst ⟨hP, hD, hS, hw, hp, hl, hr, hn, h1, h2⟩
  obtain ⟨t1, rfl, hr_1⟩ := mj_sr_int hr
  exact lv_ineg C.1 C.2.1 hd (k ws H locs cells slots ls _ ⟨hP, hD, hS, hw, hp, hl, mj_sr_mki hr_1, hn, h1, h2⟩)
theorem mj_o_i2b (C : mj_Cx p l R s m args meth c ct X D A M d) (hd : decode M.2.1 pc = .ok (.i2b, len)) (hs : mj_step X M (.i2b) len pc L st w = some (.inl r)) (k : mj_G p l e R s m args below meth c ct D A Q ads0 c0 s0 r.1 r.2.1 r.2.2.1 r.2.2.2) : mj_G p l e R s m args below meth c ct D A Q ads0 c0 s0 pc L st w := by
  obtain ⟨rfl, hs_1⟩ := mj_ifn hs
  obtain ⟨x, t, rfl, rfl⟩ := mj_un_inv hs_1
  intro ws H locs cells slots ls rst ⟨hP, hD, hS, hw, hp, hl, hr, hn, h1, h2⟩
  obtain ⟨t1, rfl, hr_1⟩ := mj_sr_int hr
  exact lv_i2b C.1 C.2.1 hd rfl (k ws H locs cells slots ls _ ⟨hP, hD, hS, hw, hp, hl, mj_sr_mki hr_1, hn, h1, h2⟩)
theorem mj_o_i2c (C : mj_Cx p l R s m args meth c ct X D A M d) (hd : decode M.2.1 pc = .ok (.i2c, len)) (hs : mj_step X M (.i2c) len pc L st w = some (.inl r)) (k : mj_G p l e R s m args below meth c ct D A Q ads0 c0 s0 r.1 r.2.1 r.2.2.1 r.2.2.2) : mj_G p l e R s m args below meth c ct D A Q ads0 c0 s0 pc L st w := by
  obtain ⟨rfl, hs_1⟩ := mj_ifn hs
  obtain ⟨x, t, rfl, rfl⟩ := mj_un_inv hs_1
  intro ws H locs cells slots ls rst ⟨hP, hD, hS, hw, hp, hl, hr, hn, h1, h2⟩
  obtain ⟨t1, rfl, hr_1⟩ := mj_sr_int hr
  exact lv_i2c C.1 C.2.1 hd rfl (k ws H locs cells slots ls _ ⟨hP, hD, hS, hw, hp, hl, mj_sr_mki hr_1, hn, h1, h2⟩)
theorem mj_o_ladd (C : mj_Cx p l R s m args meth c ct X D A M d) (hd : decode M.2.1 pc = .ok (.ladd, len)) (hs : mj_step X M (.ladd) len pc L st w = some (.inl r)) (k : mj_G p l e R s m args below meth c ct D A Q ads0 c0 s0 r.1 r.2.1 r.2.2.1 r.2.2.2) : mj_G p l e R s m args below meth c ct D A Q ads0 c0 s0 pc L st w := by
  obtain ⟨rfl, hs_1⟩ := mj_ifn hs
  obtain ⟨x, y, t, rfl, rfl⟩ := mj_binl_inv hs_1
  intro ws H locs cells slots ls rst ⟨hP, hD, hS, hw, hp, hl, hr, hn, h1, h2⟩
  obtain ⟨t1, rfl, hr_1⟩ := mj_sr_long hr
  obtain ⟨t2, rfl, hr_2⟩ := mj_sr_long hr_1
  exact lv_ladd C.1 C.2.1 hd (k ws H locs cells slots ls _ ⟨hP, hD, hS, hw, hp, hl, mj_sr_mkl hr_2, hn, h1, h2⟩)
theorem mj_o_lsub (C : mj_Cx p l R s m args meth c ct X D A M d) (hd : decode M.2.1 pc = .ok (.lsub, len)) (hs : mj_step X M (.lsub) len pc L st w = some (.inl r)) (k : mj_G p l e R s m args below meth c ct D A Q ads0 c0 s0 r.1 r.2.1 r.2.2.1 r.2.2.2) : mj_G p l e R s m args below meth c ct D A Q ads0 c0 s0 pc L st w := by
  obtain ⟨rfl, hs_1⟩ := mj_ifn hs
  obtain ⟨x, y, t, rfl, rfl⟩ := mj_binl_inv hs_1
  intro ws H locs cells slots ls rst ⟨hP, hD, hS, hw, hp, hl, hr, hn, h1, h2⟩
  obtain ⟨t1, rfl, hr_1⟩ := mj_sr_long hr
  obtain ⟨t2, rfl, hr_2⟩ := mj_sr_long hr_1
  exact lv_lsub C.1 C.2.1 hd (k ws H locs cells slots ls _ ⟨hP, hD, hS, hw, hp, hl, mj_sr_mkl hr_2, hn, h1, h2⟩)
theorem mj_o_land (C : mj_Cx p l R s m args meth c ct X D A M d) (hd : decode M.2.1 pc = .ok (.land, len)) (hs : mj_step X M (.land) len pc L st w = some (.inl r)) (k : mj_G p l e R s m args below meth c ct D A Q ads0 c0 s0 r.1 r.2.1 r.2.2.1 r.2.2.2) : mj_G p l e R s m args below meth c ct D A Q ads0 c0 s0 pc L st w := by
  obtain ⟨rfl, hs_1⟩ := mj_ifn hs
  obtain ⟨x, y, t, rfl, rfl⟩ := mj_binl_inv hs_1
  intro ws H locs cells slots ls rst ⟨hP, hD, hS, hw, hp, hl, hr, hn, h1, h2⟩
  obtain ⟨t1, rfl, hr_1⟩ := mj_sr_long hr
  obtain ⟨t2, rfl, hr_2⟩ := mj_sr_long hr_1
  exact lv_land C.1 C.2.1 hd (k ws H locs cells slots ls _ ⟨hP, hD, hS, hw, hp, hl, mj_sr_mkl hr_2, hn, h1, h2⟩)
theorem mj_o_lor (C : mj_Cx p l R s m args meth c ct X D A M d) (hd : decode M.2.1 pc = .ok (.lor, len)) (hs : mj_step X M (.lor) len pc L st w = some (.inl r)) (k : mj_G p l e R s m args below meth c ct D A Q ads0 c0 s0 r.1 r.2.1 r.2.2.1 r.2.2.2) : mj_G p l e R s m args below meth c ct D A Q ads0 c0 s0 pc L st w := by
  obtain ⟨rfl, hs_1⟩ := mj_ifn hs
  obtain ⟨x, y, t, rfl, rfl⟩ := mj_binl_inv hs_1
  intro ws H locs cells slots ls rst ⟨hP, hD, hS, hw, hp, hl, hr, hn, h1, h2⟩
  obtain ⟨t1, rfl, hr_1⟩ := mj_sr_long hr
  obtain ⟨t2, rfl, hr_2⟩ := mj_sr_long hr_1
  exact lv_lor C.1 C.2.1 hd (k ws H locs cells slots ls _ ⟨hP, hD, hS, hw, hp, hl, mj_sr_mkl hr_2, hn, h1, h2⟩)
theorem mj_o_i2l (C : mj_Cx p l R s m args meth c ct X D A M d) (hd : decode M.2.1 pc = .ok (.i2l, len)) (hs : mj_step X M (.i2l) len pc L st w = some (.inl r)) (k : mj_G p l e R s m args below meth c ct D A Q ads0 c0 s0 r.1 r.2.1 r.2.2.1 r.2.2.2) : mj_G p l e R s m args below meth c ct D A Q ads0 c0 s0 pc L st w := by
  obtain ⟨rfl, hs_1⟩ := mj_ifn hs
  split at hs_1
  · cases mj_nx_inv hs_1
    intro ws H locs cells slots ls rst ⟨hP, hD, hS, hw, hp, hl, hr, hn, h1, h2⟩
    obtain ⟨t1, rfl, hr_1⟩ := mj_sr_int hr
    exact lv_i2l C.1 C.2.1 hd rfl (k ws H locs cells slots ls _ ⟨hP, hD, hS, hw, hp, hl, mj_sr_mkl hr_1, hn, h1, h2⟩)
  · cases hs_1
theorem mj_o_l2i (C : mj_Cx p l R s m args meth c ct X D A M d) (hd : decode M.2.1 pc = .ok (.l2i, len)) (hs : mj_step X M (.l2i) len pc L st w = some (.inl r)) (k : mj_G p l e R s m args below meth c ct D A Q ads0 c0 s0 r.1 r.2.1 r.2.2.1 r.2.2.2) : mj_G p l e R s m args below meth c ct D A Q ads0 c0 s0 pc L st w := by
  obtain ⟨rfl, hs_1⟩ := mj_ifn hs
  split at hs_1
  · cases mj_nx_inv hs_1
    intro ws H locs cells slots ls rst ⟨hP, hD, hS, hw, hp, hl, hr, hn, h1, h2⟩
    obtain ⟨t2, rfl, hr_1⟩ := mj_sr_long hr
    exact lv_l2i C.1 C.2.1 hd rfl (k ws H locs cells slots ls _ ⟨hP, hD, hS, hw, hp, hl, mj_sr_mki hr_1, hn, h1, h2⟩)
  · cases hs_1
theorem mj_o_lshl (C : mj_Cx p l R s m args meth c ct X D A M d) (hd : decode M.2.1 pc = .ok (.lshl, len)) (hs : mj_step X M (.lshl) len pc L st w = some (.inl r)) (k : mj_G p l e R s m args below meth c ct D A Q ads0 c0 s0 r.1 r.2.1 r.2.2.1 r.2.2.2) : mj_G p l e R s m args below meth c ct D A Q ads0 c0 s0 pc L st w := by
  obtain ⟨rfl, hs_1⟩ := mj_ifn hs
  split at hs_1
  · cases mj_nx_inv hs_1
    intro ws H locs cells slots ls rst ⟨hP, hD, hS, hw, hp, hl, hr, hn, h1, h2⟩
    obtain ⟨t1, rfl, hr_1⟩ := mj_sr_int hr
    obtain ⟨t2, rfl, hr_2⟩ := mj_sr_long hr_1
    exact lv_lshl C.1 C.2.1 hd rfl (k ws H locs cells slots ls _ ⟨hP, hD, hS, hw, hp, hl, mj_sr_mkl hr_2, hn, h1, h2⟩)
  · cases hs_1
theorem mj_o_lushr (C : mj_Cx p l R s m args meth c ct X D A M d) (hd : decode M.2.1 pc = .ok (.lushr, len)) (hs : mj_step X M (.lushr) len pc L st w = some (.inl r)) (k : mj_G p l e R s m args below meth c ct D A Q ads0 c0 s0 r.1 r.2.1 r.2.2.1 r.2.2.2) : mj_G p l e R s m args below meth c ct D A Q ads0 c0 s0 pc L st w := by
  obtain ⟨rfl, hs_1⟩ := mj_ifn hs
  split at hs_1
  · cases mj_nx_inv hs_1
    intro ws H locs cells slots ls rst ⟨hP, hD, hS, hw, hp, hl, hr, hn, h1, h2⟩
    obtain ⟨t1, rfl, hr_1⟩ := mj_sr_int hr
    obtain ⟨t2, rfl, hr_2⟩ := mj_sr_long hr_1
    exact lv_lushr C.1 C.2.1 hd rfl (k ws H locs cells slots ls _ ⟨hP, hD, hS, hw, hp, hl, mj_sr_mkl hr_2, hn, h1, h2⟩)
  · cases hs_1
theorem mj_o_lcmp (C : mj_Cx p l R s m args meth c ct X D A M d) (hd : decode M.2.1 pc = .ok (.lcmp, len)) (hs : mj_step X M (.lcmp) len pc L st w = some (.inl r)) (k : mj_G p l e R s m args below meth c ct D A Q ads0 c0 s0 r.1 r.2.1 r.2.2.1 r.2.2.2) : mj_G p l e R s m args below meth c ct D A Q ads0 c0 s0 pc L st w := by
  obtain ⟨rfl, hs_1⟩ := mj_ifn hs
  split at hs_1
  · cases mj_nx_inv hs_1
    intro ws H locs cells slots ls rst ⟨hP, hD, hS, hw, hp, hl, hr, hn, h1, h2⟩
    obtain ⟨t1, rfl, hr_1⟩ := mj_sr_long hr
    obtain ⟨t2, rfl, hr_2⟩ := mj_sr_long hr_1
    exact W.lcmp C.1 C.2.1 hd (k ws H locs cells slots ls _ ⟨hP, hD, hS, hw, hp, hl, mj_sr_mki hr_2, hn, h1, h2⟩)
  · cases hs_1
theorem mj_o_dup (C : mj_Cx p l R s m args meth c ct X D A M d) (hd : decode M.2.1 pc = .ok (.dup, len)) (hs : mj_step X M (.dup) len pc L st w = some (.inl r)) (k : mj_G p l e R s m args below meth c ct D A Q ads0 c0 s0 r.1 r.2.1 r.2.2.1 r.2.2.2) : mj_G p l e R s m args below meth c ct D A Q ads0 c0 s0 pc L st w := by
  obtain ⟨rfl, hs_1⟩ := mj_ifn hs
  split at hs_1
  · obtain ⟨hcat, hs_2⟩ := mj_ifn hs_1
    cases mj_nx_inv hs_2
    intro ws H locs cells slots ls rst ⟨hP, hD, hS, hw, hp, hl, hr, hn, h1, h2⟩
    obtain ⟨ra, t1, rfl, ea, hr_1⟩ := mj_sr_cons hr
    exact lv_dup C.1 C.2.1 hd (by rw [mj_rv_cat C.2.2.2.2.1.1 ea]; exact hcat) (k ws H locs cells slots ls _ ⟨hP, hD, hS, hw, hp, hl, mj_sr_mk ea (mj_sr_mk ea hr_1), hn, h1, h2⟩)
  · cases hs_1
theorem mj_o_pop (C : mj_Cx p l R s m args meth c ct X D A M d) (hd : decode M.2.1 pc = .ok (.pop, len)) (hs : mj_step X M (.pop) len pc L st w = some (.inl r)) (k : mj_G p l e R s m args below meth c ct D A Q ads0 c0 s0 r.1 r.2.1 r.2.2.1 r.2.2.2) : mj_G p l e R s m args below meth c ct D A Q ads0 c0 s0 pc L st w := by
  obtain ⟨rfl, hs_1⟩ := mj_ifn hs
  split at hs_1
  · obtain ⟨hcat, hs_2⟩ := mj_ifn hs_1
    cases mj_nx_inv hs_2
    intro ws H locs cells slots ls rst ⟨hP, hD, hS, hw, hp, hl, hr, hn, h1, h2⟩
    obtain ⟨ra, t1, rfl, ea, hr_1⟩ := mj_sr_cons hr
    exact lv_pop C.1 C.2.1 hd (by rw [mj_rv_cat C.2.2.2.2.1.1 ea]; exact hcat) (k ws H locs cells slots ls _ ⟨hP, hD, hS, hw, hp, hl, hr_1, hn, h1, h2⟩)
  · cases hs_1
theorem mj_o_dup2 (C : mj_Cx p l R s m args meth c ct X D A M d) (hd : decode M.2.1 pc = .ok (.dup2, len)) (hs : mj_step X M (.dup2) len pc L st w = some (.inl r)) (k : mj_G p l e R s m args below meth c ct D A Q ads0 c0 s0 r.1 r.2.1 r.2.2.1 r.2.2.2) : mj_G p l e R s m args below meth c ct D A Q ads0 c0 s0 pc L st w := by
  obtain ⟨rfl, hs_1⟩ := mj_ifn hs
  split at hs_1
  · obtain ⟨hcat, hs_2⟩ := mj_ifn hs_1
    cases mj_nx_inv hs_2
    intro ws H locs cells slots ls rst ⟨hP, hD, hS, hw, hp, hl, hr, hn, h1, h2⟩
    obtain ⟨ra, t1, rfl, ea, hr_1⟩ := mj_sr_cons hr
    obtain ⟨rb, t2, rfl, eb, hr_2⟩ := mj_sr_cons hr_1
    exact lv_dup2_11 C.1 C.2.1 hd (by rw [mj_rv_cat C.2.2.2.2.1.1 ea]; exact hcat.1) (by rw [mj_rv_cat C.2.2.2.2.1.1 eb]; exact hcat.2) (k ws H locs cells slots ls _ ⟨hP, hD, hS, hw, hp, hl, mj_sr_mk ea (mj_sr_mk eb (mj_sr_mk ea (mj_sr_mk eb hr_2))), hn, h1, h2⟩)
  · cases hs_1
theorem mj_o_goto {off : Int} (C : mj_Cx p l R s m args meth c ct X D A M d) (hd : decode M.2.1 pc = .ok (.goto off, len)) (hs : mj_step X M (.goto off) len pc L st w = some (.inl r)) (k : mj_G p l e R s m args below meth c ct D A Q ads0 c0 s0 r.1 r.2.1 r.2.2.1 r.2.2.2) : mj_G p l e R s m args below meth c ct D A Q ads0 c0 s0 pc L st w := by
  obtain ⟨rfl, hs_1⟩ := mj_ifn hs
  obtain ⟨tgt, ht, rfl⟩ := mj_jmp_inv hs_1
  intro ws H locs cells slots ls rst ⟨hP, hD, hS, hw, hp, hl, hr, hn, h1, h2⟩
  exact lv_goto C.1 C.2.1 hd ht (k ws H locs cells slots ls _ ⟨hP, hD, hS, hw, hp, hl, hr, hn, h1, h2⟩)
theorem mj_if_inv {b : Bool} {off : Int} (h : mj_if b pc off L st w = some (.inl r)) : ∃ tgt : Nat, (pc : Int) + off = (tgt : Int) ∧ ((b = true ∧ r = (tgt, L, st, w)) ∨ (b = false ∧ r = (pc + 3, L, st, w))) := by
  unfold mj_if at h
  obtain ⟨h1, h⟩ := mj_ifn h
  refine ⟨_, (Int.toNat_of_nonneg h1).symm, ?_⟩
  split at h
  · next hb => exact Or.inl ⟨hb, mj_nx_inv h⟩
  · next hb => exact Or.inr ⟨by simpa using hb, mj_nx_inv h⟩
theorem mj_o_ifCond {cd : ClassFile.Cond} {off : Int} (C : mj_Cx p l R s m args meth c ct X D A M d) (hd : decode M.2.1 pc = .ok (.ifCond cd off, len)) (hs : mj_step X M (.ifCond cd off) len pc L st w = some (.inl r)) (k : mj_G p l e R s m args below meth c ct D A Q ads0 c0 s0 r.1 r.2.1 r.2.2.1 r.2.2.2) : mj_G p l e R s m args below meth c ct D A Q ads0 c0 s0 pc L st w := by
  obtain ⟨rfl, hs_1⟩ := mj_ifn hs
  split at hs_1
  · intro ws H locs cells slots ls rst ⟨hP, hD, hS, hw, hp, hl, hr, hn, h1, h2⟩
    obtain ⟨t1, rfl, hr_1⟩ := mj_sr_int hr
    obtain ⟨tgt, ht, hk⟩ := mj_if_inv hs_1
    have kk : ∀ b, b = true ∨ b = false := fun b => by cases b <;> simp
    rcases hk with ⟨hb, rfl⟩ | ⟨hb, rfl⟩
    · cases cd <;> simp only [mj_cmp, decide_eq_true_eq] at hb
      · exact lv_if_eq C.1 C.2.1 hd ht (fun _ => k ws H locs cells slots ls _ ⟨hP, hD, hS, hw, hp, hl, hr_1, hn, h1, h2⟩) (fun hx => absurd hb hx)
      · exact lv_if_ne C.1 C.2.1 hd ht (fun _ => k ws H locs cells slots ls _ ⟨hP, hD, hS, hw, hp, hl, hr_1, hn, h1, h2⟩) (fun hx => absurd hb (fun z => z hx))
      · exact lv_if_lt C.1 C.2.1 hd ht (fun _ => k ws H locs cells slots ls _ ⟨hP, hD, hS, hw, hp, hl, hr_1, hn, h1, h2⟩) (fun hx => absurd hb hx)
      · exact lv_if_ge C.1 C.2.1 hd ht (fun _ => k ws H locs cells slots ls _ ⟨hP, hD, hS, hw, hp, hl, hr_1, hn, h1, h2⟩) (fun hx => absurd hb hx)
      · exact lv_if_gt C.1 C.2.1 hd ht (fun _ => k ws H locs cells slots ls _ ⟨hP, hD, hS, hw, hp, hl, hr_1, hn, h1, h2⟩) (fun hx => absurd hb hx)
      · exact lv_if_le C.1 C.2.1 hd ht (fun _ => k ws H locs cells slots ls _ ⟨hP, hD, hS, hw, hp, hl, hr_1, hn, h1, h2⟩) (fun hx => absurd hb hx)
    · cases cd <;> simp only [mj_cmp, decide_eq_false_iff_not, Classical.not_not] at hb
      · exact lv_if_eq C.1 C.2.1 hd ht (fun hx => absurd hx hb) (fun _ => k ws H locs cells slots ls _ ⟨hP, hD, hS, hw, hp, hl, hr_1, hn, h1, h2⟩)
      · exact lv_if_ne C.1 C.2.1 hd ht (fun hx => absurd hb hx) (fun _ => k ws H locs cells slots ls _ ⟨hP, hD, hS, hw, hp, hl, hr_1, hn, h1, h2⟩)
      · exact lv_if_lt C.1 C.2.1 hd ht (fun hx => absurd hx hb) (fun _ => k ws H locs cells slots ls _ ⟨hP, hD, hS, hw, hp, hl, hr_1, hn, h1, h2⟩)
      · exact lv_if_ge C.1 C.2.1 hd ht (fun hx => absurd hx hb) (fun _ => k ws H locs cells slots ls _ ⟨hP, hD, hS, hw, hp, hl, hr_1, hn, h1, h2⟩)
      · exact lv_if_gt C.1 C.2.1 hd ht (fun hx => absurd hx hb) (fun _ => k ws H locs cells slots ls _ ⟨hP, hD, hS, hw, hp, hl, hr_1, hn, h1, h2⟩)
      · exact lv_if_le C.1 C.2.1 hd ht (fun hx => absurd hx hb) (fun _ => k ws H locs cells slots ls _ ⟨hP, hD, hS, hw, hp, hl, hr_1, hn, h1, h2⟩)
  · cases hs_1
theorem mj_o_if_icmp {cd : ClassFile.Cond} {off : Int} (C : mj_Cx p l R s m args meth c ct X D A M d) (hd : decode M.2.1 pc = .ok (.if_icmp cd off, len)) (hs : mj_step X M (.if_icmp cd off) len pc L st w = some (.inl r)) (k : mj_G p l e R s m args below meth c ct D A Q ads0 c0 s0 r.1 r.2.1 r.2.2.1 r.2.2.2) : mj_G p l e R s m args below meth c ct D A Q ads0 c0 s0 pc L st w := by
  obtain ⟨rfl, hs_1⟩ := mj_ifn hs
  split at hs_1
  · intro ws H locs cells slots ls rst ⟨hP, hD, hS, hw, hp, hl, hr, hn, h1, h2⟩
    obtain ⟨t1, rfl, hr_1⟩ := mj_sr_int hr
    obtain ⟨t2, rfl, hr_2⟩ := mj_sr_int hr_1
    obtain ⟨tgt, ht, hk⟩ := mj_if_inv hs_1
    have kk : ∀ b, b = true ∨ b = false := fun b => by cases b <;> simp
    rcases hk with ⟨hb, rfl⟩ | ⟨hb, rfl⟩
    · cases cd <;> simp only [mj_cmp, decide_eq_true_eq] at hb
      · exact lv_icmp_eq C.1 C.2.1 hd ht (fun _ => k ws H locs cells slots ls _ ⟨hP, hD, hS, hw, hp, hl, hr_2, hn, h1, h2⟩) (fun hx => absurd hb hx)
      · exact lv_icmp_ne C.1 C.2.1 hd ht (fun _ => k ws H locs cells slots ls _ ⟨hP, hD, hS, hw, hp, hl, hr_2, hn, h1, h2⟩) (fun hx => absurd hb (fun z => z hx))
      · exact lv_icmp_lt C.1 C.2.1 hd ht (fun _ => k ws H locs cells slots ls _ ⟨hP, hD, hS, hw, hp, hl, hr_2, hn, h1, h2⟩) (fun hx => absurd hb hx)
      · exact lv_icmp_ge C.1 C.2.1 hd ht (fun _ => k ws H locs cells slots ls _ ⟨hP, hD, hS, hw, hp, hl, hr_2, hn, h1, h2⟩) (fun hx => absurd hb hx)
      · exact lv_icmp_gt C.1 C.2.1 hd ht (fun _ => k ws H locs cells slots ls _ ⟨hP, hD, hS, hw, hp, hl, hr_2, hn, h1, h2⟩) (fun hx => absurd hb hx)
      · exact lv_icmp_le C.1 C.2.1 hd ht (fun _ => k ws H locs cells slots ls _ ⟨hP, hD, hS, hw, hp, hl, hr_2, hn, h1, h2⟩) (fun hx => absurd hb hx)
    · cases cd <;> simp only [mj_cmp, decide_eq_false_iff_not, Classical.not_not] at hb
      · exact lv_icmp_eq C.1 C.2.1 hd ht (fun hx => absurd hx hb) (fun _ => k ws H locs cells slots ls _ ⟨hP, hD, hS, hw, hp, hl, hr_2, hn, h1, h2⟩)
      · exact lv_icmp_ne C.1 C.2.1 hd ht (fun hx => absurd hb hx) (fun _ => k ws H locs cells slots ls _ ⟨hP, hD, hS, hw, hp, hl, hr_2, hn, h1, h2⟩)
      · exact lv_icmp_lt C.1 C.2.1 hd ht (fun hx => absurd hx hb) (fun _ => k ws H locs cells slots ls _ ⟨hP, hD, hS, hw, hp, hl, hr_2, hn, h1, h2⟩)
      · exact lv_icmp_ge C.1 C.2.1 hd ht (fun hx => absurd hx hb) (fun _ => k ws H locs cells slots ls _ ⟨hP, hD, hS, hw, hp, hl, hr_2, hn, h1, h2⟩)
      · exact lv_icmp_gt C.1 C.2.1 hd ht (fun hx => absurd hx hb) (fun _ => k ws H locs cells slots ls _ ⟨hP, hD, hS, hw, hp, hl, hr_2, hn, h1, h2⟩)
      · exact lv_icmp_le C.1 C.2.1 hd ht (fun hx => absurd hx hb) (fun _ => k ws H locs cells slots ls _ ⟨hP, hD, hS, hw, hp, hl, hr_2, hn, h1, h2⟩)
  · cases hs_1
theorem mj_o_tableswitch {dflt lo hi : Int} {offs : Array Int} (C : mj_Cx p l R s m args meth c ct X D A M d) (hd : decode M.2.1 pc = .ok (.tableswitch dflt lo hi offs, len)) (hs : mj_step X M (.tableswitch dflt lo hi offs) len pc L st w = some (.inl r)) (k : mj_G p l e R s m args below meth c ct D A Q ads0 c0 s0 r.1 r.2.1 r.2.2.1 r.2.2.2) : mj_G p l e R s m args below meth c ct D A Q ads0 c0 s0 pc L st w := by
  have hs : (match st with | .int x :: t => mj_tsw dflt lo hi offs x pc L t w | _ => none) = some (.inl r) := hs
  split at hs
  · intro ws H locs cells slots ls rst ⟨hP, hD, hS, hw, hp, hl, hr, hn, h1, h2⟩
    obtain ⟨t1, rfl, hr_1⟩ := mj_sr_int hr
    unfold mj_tsw at hs
    split at hs
    · next hlo =>
      obtain ⟨tgt, ht, rfl⟩ := mj_jmp_inv hs
      exact lv_tableOut C.1 C.2.1 hd (Or.inl hlo) ht (k ws H locs cells slots ls _ ⟨hP, hD, hS, hw, hp, hl, hr_1, hn, h1, h2⟩)
    · next hlo =>
      split at hs
      · next hhi =>
        obtain ⟨tgt, ht, rfl⟩ := mj_jmp_inv hs
        exact lv_tableOut C.1 C.2.1 hd (Or.inr hhi) ht (k ws H locs cells slots ls _ ⟨hP, hD, hS, hw, hp, hl, hr_1, hn, h1, h2⟩)
      · next hhi =>
        split at hs
        · next off ho =>
          obtain ⟨tgt, ht, rfl⟩ := mj_jmp_inv hs
          exact lv_tableIn C.1 C.2.1 hd hlo hhi ho ht (k ws H locs cells slots ls _ ⟨hP, hD, hS, hw, hp, hl, hr_1, hn, h1, h2⟩)
        · cases hs
  · cases hs
end MJO
