/-! every case of the law: printed by wip/whole/gen_case.py -/
section
variable {X : mj_X} {d i : Nat} {s : mw_S} {A : AS} {l5 l6 : Option Value}
theorem L0 (hA : gd A) (hC : CI s A) (hM : MI s A) (hi : i + 6 ≤ X.1) (hX : X.1 ≤ 3072) : ∃ t A' l5' l6', mj_exec X (d + 102) 336 220 [some (.ref 1000002), some (.ref 0), some (.ref 42), some (.ref 79), some (.int (nI i)), l5, l6] [] (mw_U s) = mj_exec X (d + 102) 336 2136 [some (.ref 1000002), some (.ref 0), some (.ref 42), some (.ref 79), some (.int (nI i)), l5', l6'] [] (mw_U t) ∧ ZZ s t A' := by
  obtain ⟨b, t1, t2, A', e1, e2, zz⟩ := run_d (X := X) (d := d + 101) (ar := [.int (X.2 (nI i + nI 1).toNatClampNeg), .int (X.2 (nI i + nI 2).toNatClampNeg), .int (X.2 (nI i + nI 3).toNatClampNeg), .int (X.2 (nI i + nI 4).toNatClampNeg), .int (X.2 (nI i + nI 5).toNatClampNeg)]) (JC_feed hA) hC hM (by omega)
  refine ⟨t2, A', l5, l6, ?_, zz⟩
  rw [b336_220 mw_l_79, if_pos (hin_ok hi hX (by decide)), if_pos (hin_ok hi hX (by decide)), if_pos (hin_ok hi hX (by decide)), if_pos (hin_ok hi hX (by decide)), if_pos (hin_ok hi hX (by decide)), e1, mj_bk_i, b336_254 mw_l_79, if_pos (hin_ok hi hX (by decide)), if_pos (hin_ok hi hX (by decide)), if_pos (hin_ok hi hX (by decide)), if_pos (hin_ok hi hX (by decide)), if_pos (hin_ok hi hX (by decide)), e2, mj_bk_i, b336_288 mw_l_79, if_pos rfl]
theorem L1 (hA : gd A) (hC : CI s A) (hM : MI s A) (hi : i + 6 ≤ X.1) (hX : X.1 ≤ 3072) : ∃ t A' l5' l6', mj_exec X (d + 102) 336 293 [some (.ref 1000002), some (.ref 0), some (.ref 42), some (.ref 79), some (.int (nI i)), l5, l6] [] (mw_U s) = mj_exec X (d + 102) 336 2136 [some (.ref 1000002), some (.ref 0), some (.ref 42), some (.ref 79), some (.int (nI i)), l5', l6'] [] (mw_U t) ∧ ZZ s t A' := by
  have c0 : (nI 0).toNatClampNeg = 0 := mn_clamp (by omega)
  obtain ⟨k, b, t1, t2, A', e1, e2, e3, hk, e4, zz⟩ := run_w (X := X) (d := d + 100) (ar := [.int (X.2 (nI i + nI 1).toNatClampNeg)]) (aw := [.ref 0, .int (X.2 (nI i + nI 1).toNatClampNeg), .ref 79]) (φ := Int32.toInt64) (JC_town hA) hC hM hA (by omega) (fun s t v e => w312_v e) (fun s t e k hm he => by
    obtain ⟨rfl, rfl⟩ := (Prod.mk.inj (List.mem_singleton.mp hm))
    exact w312_x1 he) (fun e k hm => by
    obtain ⟨rfl, rfl⟩ := (Prod.mk.inj (List.mem_singleton.mp hm))
    decide)
  refine ⟨t2, A', some (.int (nI k)), some (.int b), ?_, zz⟩
  rw [b336_293 mw_l_79, if_pos (hin_ok hi hX (by decide)), e1, mj_bk_i, b336_304 mw_l_79, if_pos (hin_ok hi hX (by decide)), e2, mj_bk_i, b336_316 mw_l_79, b194, b194_0, e3, mj_bk_i, b336_322 mw_l_79, if_pos rfl, b336_329 mw_l_79]
  by_cases h0 : k = 0
  · subst h0
    rw [if_pos (by decide), b336_334 mw_l_79, if_pos (by decide), c0, e4 rfl, lg_self, if_pos rfl, b336_346 mw_l_79]
  · rw [if_neg (kn0 (by omega) hk), b336_346 mw_l_79]
theorem L2 (hA : gd A) (hC : CI s A) (hM : MI s A) (hi : i + 6 ≤ X.1) (hX : X.1 ≤ 3072) : ∃ t A' l5' l6', mj_exec X (d + 102) 336 349 [some (.ref 1000002), some (.ref 0), some (.ref 42), some (.ref 79), some (.int (nI i)), l5, l6] [] (mw_U s) = mj_exec X (d + 102) 336 2136 [some (.ref 1000002), some (.ref 0), some (.ref 42), some (.ref 79), some (.int (nI i)), l5', l6'] [] (mw_U t) ∧ ZZ s t A' := by
  obtain ⟨b, t1, t2, A', e1, e2, zz⟩ := run_d (X := X) (d := d + 101) (ar := []) (JC_fault hA) hC hM (by omega)
  refine ⟨t2, A', l5, l6, ?_, zz⟩
  rw [b336_349 mw_l_79, e1, mj_bk_i, b336_353 mw_l_79, e2, mj_bk_i, b336_357 mw_l_79, if_pos rfl]
theorem L3 (hA : gd A) (hC : CI s A) (hM : MI s A) (hi : i + 6 ≤ X.1) (hX : X.1 ≤ 3072) : ∃ t A' l5' l6', mj_exec X (d + 102) 336 362 [some (.ref 1000002), some (.ref 0), some (.ref 42), some (.ref 79), some (.int (nI i)), l5, l6] [] (mw_U s) = mj_exec X (d + 102) 336 2136 [some (.ref 1000002), some (.ref 0), some (.ref 42), some (.ref 79), some (.int (nI i)), l5', l6'] [] (mw_U t) ∧ ZZ s t A' := by
  have c0 : (nI 0).toNatClampNeg = 0 := mn_clamp (by omega)
  obtain ⟨k, b, t1, t2, A', e1, e2, e3, hk, e4, zz⟩ := run_w (X := X) (d := d + 100) (ar := [.int (X.2 (nI i + nI 1).toNatClampNeg)]) (aw := [.ref 0, .int (X.2 (nI i + nI 1).toNatClampNeg), .ref 79]) (φ := Int32.toInt64) (JC_count hA) hC hM hA (by omega) (fun s t v e => w313_v e) (fun s t e k hm he => by
    obtain ⟨rfl, rfl⟩ := (Prod.mk.inj (List.mem_singleton.mp hm))
    exact w313_x0 he) (fun e k hm => by
    obtain ⟨rfl, rfl⟩ := (Prod.mk.inj (List.mem_singleton.mp hm))
    decide)
  refine ⟨t2, A', some (.int (nI k)), some (.int b), ?_, zz⟩
  rw [b336_362 mw_l_79, if_pos (hin_ok hi hX (by decide)), e1, mj_bk_i, b336_373 mw_l_79, if_pos (hin_ok hi hX (by decide)), e2, mj_bk_i, b336_385 mw_l_79, b194, b194_0, e3, mj_bk_i, b336_391 mw_l_79, if_pos rfl, b336_398 mw_l_79]
  by_cases h0 : k = 0
  · subst h0
    rw [if_pos (by decide), b336_403 mw_l_79, if_pos (by decide), c0, e4 rfl, lg_self, if_pos rfl, b336_415 mw_l_79]
  · rw [if_neg (kn0 (by omega) hk), b336_415 mw_l_79]
theorem L4 (hA : gd A) (hC : CI s A) (hM : MI s A) (hi : i + 6 ≤ X.1) (hX : X.1 ≤ 3072) : ∃ t A' l5' l6', mj_exec X (d + 102) 336 418 [some (.ref 1000002), some (.ref 0), some (.ref 42), some (.ref 79), some (.int (nI i)), l5, l6] [] (mw_U s) = mj_exec X (d + 102) 336 2136 [some (.ref 1000002), some (.ref 0), some (.ref 42), some (.ref 79), some (.int (nI i)), l5', l6'] [] (mw_U t) ∧ ZZ s t A' := by
  have c0 : (nI 0).toNatClampNeg = 0 := mn_clamp (by omega)
  obtain ⟨k, b, t1, t2, A', e1, e2, e3, hk, e4, zz⟩ := run_w (X := X) (d := d + 100) (ar := [.int (X.2 (nI i + nI 1).toNatClampNeg), .int (X.2 (nI i + nI 2).toNatClampNeg)]) (aw := [.ref 0, .int (X.2 (nI i + nI 1).toNatClampNeg), .int (X.2 (nI i + nI 2).toNatClampNeg), .ref 79]) (φ := Int32.toInt64) (JC_person hA) hC hM hA (by omega) (fun s t v e => w314_v e) (fun s t e k hm he => by
    obtain ⟨rfl, rfl⟩ := (Prod.mk.inj (List.mem_singleton.mp hm))
    exact w314_x0 he) (fun e k hm => by
    obtain ⟨rfl, rfl⟩ := (Prod.mk.inj (List.mem_singleton.mp hm))
    decide)
  refine ⟨t2, A', some (.int (nI k)), some (.int b), ?_, zz⟩
  rw [b336_418 mw_l_79, if_pos (hin_ok hi hX (by decide)), if_pos (hin_ok hi hX (by decide)), e1, mj_bk_i, b336_435 mw_l_79, if_pos (hin_ok hi hX (by decide)), if_pos (hin_ok hi hX (by decide)), e2, mj_bk_i, b336_453 mw_l_79, b194, b194_0, e3, mj_bk_i, b336_459 mw_l_79, if_pos rfl, b336_466 mw_l_79]
  by_cases h0 : k = 0
  · subst h0
    rw [if_pos (by decide), b336_471 mw_l_79, if_pos (by decide), c0, e4 rfl, lg_self, if_pos rfl, b336_483 mw_l_79]
  · rw [if_neg (kn0 (by omega) hk), b336_483 mw_l_79]
theorem L5 (hA : gd A) (hC : CI s A) (hM : MI s A) (hi : i + 6 ≤ X.1) (hX : X.1 ≤ 3072) : ∃ t A' l5' l6', mj_exec X (d + 102) 336 486 [some (.ref 1000002), some (.ref 0), some (.ref 42), some (.ref 79), some (.int (nI i)), l5, l6] [] (mw_U s) = mj_exec X (d + 102) 336 2136 [some (.ref 1000002), some (.ref 0), some (.ref 42), some (.ref 79), some (.int (nI i)), l5', l6'] [] (mw_U t) ∧ ZZ s t A' := by
  have c0 : (nI 0).toNatClampNeg = 0 := mn_clamp (by omega)
  obtain ⟨k, b, t1, t2, A', e1, e2, e3, hk, e4, zz⟩ := run_w (X := X) (d := d + 100) (ar := [.int (X.2 (nI i + nI 1).toNatClampNeg), .int (X.2 (nI i + nI 2).toNatClampNeg), .int (X.2 (nI i + nI 3).toNatClampNeg)]) (aw := [.ref 0, .int (X.2 (nI i + nI 1).toNatClampNeg), .int (X.2 (nI i + nI 2).toNatClampNeg), .int (X.2 (nI i + nI 3).toNatClampNeg), .ref 79]) (φ := Int32.toInt64) (JC_quarrel hA) hC hM hA (by omega) (fun s t v e => w315_v e) (fun s t e k hm he => by
    obtain ⟨rfl, rfl⟩ := (Prod.mk.inj (List.mem_singleton.mp hm))
    exact w315_x0 he) (fun e k hm => by
    obtain ⟨rfl, rfl⟩ := (Prod.mk.inj (List.mem_singleton.mp hm))
    decide)
  refine ⟨t2, A', some (.int (nI k)), some (.int b), ?_, zz⟩
  rw [b336_486 mw_l_79, if_pos (hin_ok hi hX (by decide)), if_pos (hin_ok hi hX (by decide)), if_pos (hin_ok hi hX (by decide)), e1, mj_bk_i, b336_509 mw_l_79, if_pos (hin_ok hi hX (by decide)), if_pos (hin_ok hi hX (by decide)), if_pos (hin_ok hi hX (by decide)), e2, mj_bk_i, b336_533 mw_l_79, b194, b194_0, e3, mj_bk_i, b336_539 mw_l_79, if_pos rfl, b336_546 mw_l_79]
  by_cases h0 : k = 0
  · subst h0
    rw [if_pos (by decide), b336_551 mw_l_79, if_pos (by decide), c0, e4 rfl, lg_self, if_pos rfl, b336_563 mw_l_79]
  · rw [if_neg (kn0 (by omega) hk), b336_563 mw_l_79]
theorem L6 (hA : gd A) (hC : CI s A) (hM : MI s A) (hi : i + 6 ≤ X.1) (hX : X.1 ≤ 3072) : ∃ t A' l5' l6', mj_exec X (d + 102) 336 566 [some (.ref 1000002), some (.ref 0), some (.ref 42), some (.ref 79), some (.int (nI i)), l5, l6] [] (mw_U s) = mj_exec X (d + 102) 336 2136 [some (.ref 1000002), some (.ref 0), some (.ref 42), some (.ref 79), some (.int (nI i)), l5', l6'] [] (mw_U t) ∧ ZZ s t A' := by
  obtain ⟨b, t1, t2, A', e1, e2, zz⟩ := run_d (X := X) (d := d + 101) (ar := [.int (X.2 (nI i + nI 1).toNatClampNeg)]) (JC_weeks hA) hC hM (by omega)
  refine ⟨t2, A', l5, l6, ?_, zz⟩
  rw [b336_566 mw_l_79, if_pos (hin_ok hi hX (by decide)), e1, mj_bk_i, b336_576 mw_l_79, if_pos (hin_ok hi hX (by decide)), e2, mj_bk_i, b336_586 mw_l_79, if_pos rfl]
theorem L7 (hA : gd A) (hC : CI s A) (hM : MI s A) (hi : i + 6 ≤ X.1) (hX : X.1 ≤ 3072) : ∃ t A' l5' l6', mj_exec X (d + 102) 336 591 [some (.ref 1000002), some (.ref 0), some (.ref 42), some (.ref 79), some (.int (nI i)), l5, l6] [] (mw_U s) = mj_exec X (d + 102) 336 2136 [some (.ref 1000002), some (.ref 0), some (.ref 42), some (.ref 79), some (.int (nI i)), l5', l6'] [] (mw_U t) ∧ ZZ s t A' := by
  have c0 : (nI 0).toNatClampNeg = 0 := mn_clamp (by omega)
  obtain ⟨k, b, t1, t2, A', e1, e2, e3, hk, e4, zz⟩ := run_w (X := X) (d := d + 100) (ar := [.int (X.2 (nI i + nI 1).toNatClampNeg)]) (aw := [.ref 0, .int (X.2 (nI i + nI 1).toNatClampNeg), .ref 79]) (φ := Int32.toInt64) (JC_die hA) hC hM hA (by omega) (fun s t v e => w316_v e) (fun s t e k hm he => by
    obtain ⟨rfl, rfl⟩ := (Prod.mk.inj (List.mem_singleton.mp hm))
    exact w316_x0 he) (fun e k hm => by
    obtain ⟨rfl, rfl⟩ := (Prod.mk.inj (List.mem_singleton.mp hm))
    decide)
  refine ⟨t2, A', some (.int (nI k)), some (.int b), ?_, zz⟩
  rw [b336_591 mw_l_79, if_pos (hin_ok hi hX (by decide)), e1, mj_bk_i, b336_602 mw_l_79, if_pos (hin_ok hi hX (by decide)), e2, mj_bk_i, b336_614 mw_l_79, b194, b194_0, e3, mj_bk_i, b336_620 mw_l_79, if_pos rfl, b336_627 mw_l_79]
  by_cases h0 : k = 0
  · subst h0
    rw [if_pos (by decide), b336_632 mw_l_79, if_pos (by decide), c0, e4 rfl, lg_self, if_pos rfl, b336_644 mw_l_79]
  · rw [if_neg (kn0 (by omega) hk), b336_644 mw_l_79]
theorem L8 (hA : gd A) (hC : CI s A) (hM : MI s A) (hi : i + 6 ≤ X.1) (hX : X.1 ≤ 3072) : ∃ t A' l5' l6', mj_exec X (d + 102) 336 647 [some (.ref 1000002), some (.ref 0), some (.ref 42), some (.ref 79), some (.int (nI i)), l5, l6] [] (mw_U s) = mj_exec X (d + 102) 336 2136 [some (.ref 1000002), some (.ref 0), some (.ref 42), some (.ref 79), some (.int (nI i)), l5', l6'] [] (mw_U t) ∧ ZZ s t A' := by
  have c0 : (nI 0).toNatClampNeg = 0 := mn_clamp (by omega)
  obtain ⟨k, b, t1, t2, A', e1, e2, e3, hk, e4, zz⟩ := run_w (X := X) (d := d + 100) (ar := [.int (X.2 (nI i + nI 1).toNatClampNeg), .int (X.2 (nI i + nI 2).toNatClampNeg)]) (aw := [.ref 0, .int (X.2 (nI i + nI 1).toNatClampNeg), .int (X.2 (nI i + nI 2).toNatClampNeg), .ref 79]) (φ := fun v => if v = 0 then Int64.ofNat 0 else Int64.ofNat 1) (JC_wed hA) hC hM hA (by omega) (fun s t v e => w317_v e) (fun s t e k hm he => by
    obtain ⟨rfl, rfl⟩ := (Prod.mk.inj (List.mem_singleton.mp hm))
    exact w317_x0 he) (fun e k hm => by
    obtain ⟨rfl, rfl⟩ := (Prod.mk.inj (List.mem_singleton.mp hm))
    decide)
  refine ⟨t2, A', some (.int (nI k)), some (.int b), ?_, zz⟩
  rw [b336_647 mw_l_79, if_pos (hin_ok hi hX (by decide)), if_pos (hin_ok hi hX (by decide)), e1, mj_bk_i, b336_664 mw_l_79, if_pos (hin_ok hi hX (by decide)), if_pos (hin_ok hi hX (by decide)), e2, mj_bk_i, b336_682 mw_l_79, b194, b194_0, e3, mj_bk_i, b336_688 mw_l_79, if_pos rfl, b336_695 mw_l_79]
  by_cases h0 : k = 0
  · subst h0
    have e5 := e4 rfl
    rw [if_pos (by decide), b336_700 mw_l_79, if_pos (by decide), c0]
    by_cases hb : b = 0
    · rw [if_pos hb] at e5
      rw [if_pos hb, b336_712 mw_l_79, b336_713 mw_l_79, e5, lg_self, if_pos rfl, b336_719 mw_l_79]
    · rw [if_neg hb] at e5
      rw [if_neg hb, b336_708 mw_l_79, b336_713 mw_l_79, e5, lg_self, if_pos rfl, b336_719 mw_l_79]
  · rw [if_neg (kn0 (by omega) hk), b336_719 mw_l_79]
theorem L9 (hA : gd A) (hC : CI s A) (hM : MI s A) (hi : i + 6 ≤ X.1) (hX : X.1 ≤ 3072) : ∃ t A' l5' l6', mj_exec X (d + 102) 336 722 [some (.ref 1000002), some (.ref 0), some (.ref 42), some (.ref 79), some (.int (nI i)), l5, l6] [] (mw_U s) = mj_exec X (d + 102) 336 2136 [some (.ref 1000002), some (.ref 0), some (.ref 42), some (.ref 79), some (.int (nI i)), l5', l6'] [] (mw_U t) ∧ ZZ s t A' := by
  have c0 : (nI 0).toNatClampNeg = 0 := mn_clamp (by omega)
  obtain ⟨k, b, t1, t2, A', e1, e2, e3, hk, e4, zz⟩ := run_w (X := X) (d := d + 100) (ar := [.int (X.2 (nI i + nI 1).toNatClampNeg), .int (X.2 (nI i + nI 2).toNatClampNeg)]) (aw := [.ref 0, .int (X.2 (nI i + nI 1).toNatClampNeg), .int (X.2 (nI i + nI 2).toNatClampNeg), .ref 79]) (φ := Int32.toInt64) (JC_settle hA) hC hM hA (by omega) (fun s t v e => w318_v e) (fun s t e k hm he => by
    obtain ⟨rfl, rfl⟩ := (Prod.mk.inj (List.mem_singleton.mp hm))
    exact w318_x0 he) (fun e k hm => by
    obtain ⟨rfl, rfl⟩ := (Prod.mk.inj (List.mem_singleton.mp hm))
    decide)
  refine ⟨t2, A', some (.int (nI k)), some (.int b), ?_, zz⟩
  rw [b336_722 mw_l_79, if_pos (hin_ok hi hX (by decide)), if_pos (hin_ok hi hX (by decide)), e1, mj_bk_i, b336_739 mw_l_79, if_pos (hin_ok hi hX (by decide)), if_pos (hin_ok hi hX (by decide)), e2, mj_bk_i, b336_757 mw_l_79, b194, b194_0, e3, mj_bk_i, b336_763 mw_l_79, if_pos rfl, b336_770 mw_l_79]
  by_cases h0 : k = 0
  · subst h0
    rw [if_pos (by decide), b336_775 mw_l_79, if_pos (by decide), c0, e4 rfl, lg_self, if_pos rfl, b336_787 mw_l_79]
  · rw [if_neg (kn0 (by omega) hk), b336_787 mw_l_79]
theorem L10 (hA : gd A) (hC : CI s A) (hM : MI s A) (hi : i + 6 ≤ X.1) (hX : X.1 ≤ 3072) : ∃ t A' l5' l6', mj_exec X (d + 102) 336 790 [some (.ref 1000002), some (.ref 0), some (.ref 42), some (.ref 79), some (.int (nI i)), l5, l6] [] (mw_U s) = mj_exec X (d + 102) 336 2136 [some (.ref 1000002), some (.ref 0), some (.ref 42), some (.ref 79), some (.int (nI i)), l5', l6'] [] (mw_U t) ∧ ZZ s t A' := by
  have c0 : (nI 0).toNatClampNeg = 0 := mn_clamp (by omega)
  obtain ⟨k, b, t1, t2, A', e1, e2, e3, hk, e4, zz⟩ := run_w (X := X) (d := d + 100) (ar := [.int (X.2 (nI i + nI 1).toNatClampNeg), .int (X.2 (nI i + nI 2).toNatClampNeg), .int (X.2 (nI i + nI 3).toNatClampNeg), .int (X.2 (nI i + nI 4).toNatClampNeg)]) (aw := [.ref 0, .int (X.2 (nI i + nI 1).toNatClampNeg), .int (X.2 (nI i + nI 2).toNatClampNeg), .int (X.2 (nI i + nI 3).toNatClampNeg), .int (X.2 (nI i + nI 4).toNatClampNeg), .ref 79]) (φ := Int32.toInt64) (JC_pick hA) hC hM hA (by omega) (fun s t v e => w319_v e) (fun s t e k hm he => by
    obtain ⟨rfl, rfl⟩ := (Prod.mk.inj (List.mem_singleton.mp hm))
    exact w319_x0 he) (fun e k hm => by
    obtain ⟨rfl, rfl⟩ := (Prod.mk.inj (List.mem_singleton.mp hm))
    decide)
  refine ⟨t2, A', some (.int (nI k)), some (.int b), ?_, zz⟩
  rw [b336_790 mw_l_79, if_pos (hin_ok hi hX (by decide)), if_pos (hin_ok hi hX (by decide)), if_pos (hin_ok hi hX (by decide)), if_pos (hin_ok hi hX (by decide)), e1, mj_bk_i, b336_819 mw_l_79, if_pos (hin_ok hi hX (by decide)), if_pos (hin_ok hi hX (by decide)), if_pos (hin_ok hi hX (by decide)), if_pos (hin_ok hi hX (by decide)), e2, mj_bk_i, b336_849 mw_l_79, b194, b194_0, e3, mj_bk_i, b336_855 mw_l_79, if_pos rfl, b336_862 mw_l_79]
  by_cases h0 : k = 0
  · subst h0
    rw [if_pos (by decide), b336_867 mw_l_79, if_pos (by decide), c0, e4 rfl, lg_self, if_pos rfl, b336_879 mw_l_79]
  · rw [if_neg (kn0 (by omega) hk), b336_879 mw_l_79]
theorem L11 (hA : gd A) (hC : CI s A) (hM : MI s A) (hi : i + 6 ≤ X.1) (hX : X.1 ≤ 3072) : ∃ t A' l5' l6', mj_exec X (d + 102) 336 882 [some (.ref 1000002), some (.ref 0), some (.ref 42), some (.ref 79), some (.int (nI i)), l5, l6] [] (mw_U s) = mj_exec X (d + 102) 336 2136 [some (.ref 1000002), some (.ref 0), some (.ref 42), some (.ref 79), some (.int (nI i)), l5', l6'] [] (mw_U t) ∧ ZZ s t A' := by
  obtain ⟨b, t1, t2, A', e1, e2, zz⟩ := run_d (X := X) (d := d + 101) (ar := []) (JC_undo hA) hC hM (by omega)
  refine ⟨t2, A', l5, l6, ?_, zz⟩
  rw [b336_882 mw_l_79, e1, mj_bk_i, b336_886 mw_l_79, e2, mj_bk_i, b336_890 mw_l_79, if_pos rfl]
theorem L12 (hA : gd A) (hC : CI s A) (hM : MI s A) (hi : i + 6 ≤ X.1) (hX : X.1 ≤ 3072) : ∃ t A' l5' l6', mj_exec X (d + 102) 336 895 [some (.ref 1000002), some (.ref 0), some (.ref 42), some (.ref 79), some (.int (nI i)), l5, l6] [] (mw_U s) = mj_exec X (d + 102) 336 2136 [some (.ref 1000002), some (.ref 0), some (.ref 42), some (.ref 79), some (.int (nI i)), l5', l6'] [] (mw_U t) ∧ ZZ s t A' := by
  have c0 : (nI 0).toNatClampNeg = 0 := mn_clamp (by omega)
  obtain ⟨k, b, t1, t2, A', e1, e2, e3, hk, e4, zz⟩ := run_w (X := X) (d := d + 100) (ar := [.int (X.2 (nI i + nI 1).toNatClampNeg), .int (X.2 (nI i + nI 2).toNatClampNeg), .int (X.2 (nI i + nI 3).toNatClampNeg), .int (X.2 (nI i + nI 4).toNatClampNeg)]) (aw := [.ref 0, .int (X.2 (nI i + nI 1).toNatClampNeg), .int (X.2 (nI i + nI 2).toNatClampNeg), .int (X.2 (nI i + nI 3).toNatClampNeg), .int (X.2 (nI i + nI 4).toNatClampNeg), .ref 79]) (φ := Int32.toInt64) (JC_then hA) hC hM hA (by omega) (fun s t v e => w320_v e) (fun s t e k hm he => by
    rcases List.mem_cons.mp hm with z | z
    · obtain ⟨rfl, rfl⟩ := Prod.mk.inj z
      exact w320_x0 he
    · obtain ⟨rfl, rfl⟩ := Prod.mk.inj (List.mem_singleton.mp z)
      exact w320_x1 he) (fun e k hm => by
    rcases List.mem_cons.mp hm with z | z
    · obtain ⟨rfl, rfl⟩ := Prod.mk.inj z
      decide
    · obtain ⟨rfl, rfl⟩ := Prod.mk.inj (List.mem_singleton.mp z)
      decide)
  refine ⟨t2, A', some (.int (nI k)), some (.int b), ?_, zz⟩
  rw [b336_895 mw_l_79, if_pos (hin_ok hi hX (by decide)), if_pos (hin_ok hi hX (by decide)), if_pos (hin_ok hi hX (by decide)), if_pos (hin_ok hi hX (by decide)), e1, mj_bk_i, b336_924 mw_l_79, if_pos (hin_ok hi hX (by decide)), if_pos (hin_ok hi hX (by decide)), if_pos (hin_ok hi hX (by decide)), if_pos (hin_ok hi hX (by decide)), e2, mj_bk_i, b336_954 mw_l_79, b194, b194_0, e3, mj_bk_i, b336_960 mw_l_79, if_pos rfl, b336_967 mw_l_79]
  by_cases h0 : k = 0
  · subst h0
    rw [if_pos (by decide), b336_972 mw_l_79, if_pos (by decide), c0, e4 rfl, lg_self, if_pos rfl, b336_984 mw_l_79]
  · rw [if_neg (kn0 (by omega) hk), b336_984 mw_l_79]
theorem L13 (hA : gd A) (hC : CI s A) (hM : MI s A) (hi : i + 6 ≤ X.1) (hX : X.1 ≤ 3072) : ∃ t A' l5' l6', mj_exec X (d + 102) 336 987 [some (.ref 1000002), some (.ref 0), some (.ref 42), some (.ref 79), some (.int (nI i)), l5, l6] [] (mw_U s) = mj_exec X (d + 102) 336 2136 [some (.ref 1000002), some (.ref 0), some (.ref 42), some (.ref 79), some (.int (nI i)), l5', l6'] [] (mw_U t) ∧ ZZ s t A' := by
  have c0 : (nI 0).toNatClampNeg = 0 := mn_clamp (by omega)
  obtain ⟨k, b, t1, t2, A', e1, e2, e3, hk, e4, zz⟩ := run_w (X := X) (d := d + 100) (ar := [.int (X.2 (nI i + nI 1).toNatClampNeg), .int (X.2 (nI i + nI 2).toNatClampNeg)]) (aw := [.ref 0, .int (X.2 (nI i + nI 1).toNatClampNeg), .int (X.2 (nI i + nI 2).toNatClampNeg), .ref 79]) (φ := Int32.toInt64) (JC_over hA) hC hM hA (by omega) (fun s t v e => w321_v e) (fun s t e k hm he => by
    obtain ⟨rfl, rfl⟩ := (Prod.mk.inj (List.mem_singleton.mp hm))
    exact w321_x0 he) (fun e k hm => by
    obtain ⟨rfl, rfl⟩ := (Prod.mk.inj (List.mem_singleton.mp hm))
    decide)
  refine ⟨t2, A', some (.int (nI k)), some (.int b), ?_, zz⟩
  rw [b336_987 mw_l_79, if_pos (hin_ok hi hX (by decide)), if_pos (hin_ok hi hX (by decide)), e1, mj_bk_i, b336_1004 mw_l_79, if_pos (hin_ok hi hX (by decide)), if_pos (hin_ok hi hX (by decide)), e2, mj_bk_i, b336_1022 mw_l_79, b194, b194_0, e3, mj_bk_i, b336_1028 mw_l_79, if_pos rfl, b336_1035 mw_l_79]
  by_cases h0 : k = 0
  · subst h0
    rw [if_pos (by decide), b336_1040 mw_l_79, if_pos (by decide), c0, e4 rfl, lg_self, if_pos rfl, b336_1052 mw_l_79]
  · rw [if_neg (kn0 (by omega) hk), b336_1052 mw_l_79]
theorem L14 (hA : gd A) (hC : CI s A) (hM : MI s A) (hi : i + 6 ≤ X.1) (hX : X.1 ≤ 3072) : ∃ t A' l5' l6', mj_exec X (d + 102) 336 1055 [some (.ref 1000002), some (.ref 0), some (.ref 42), some (.ref 79), some (.int (nI i)), l5, l6] [] (mw_U s) = mj_exec X (d + 102) 336 2136 [some (.ref 1000002), some (.ref 0), some (.ref 42), some (.ref 79), some (.int (nI i)), l5', l6'] [] (mw_U t) ∧ ZZ s t A' := by
  obtain ⟨b, t1, t2, A', e1, e2, zz⟩ := run_d (X := X) (d := d + 101) (ar := []) (JC_peace hA) hC hM (by omega)
  refine ⟨t2, A', l5, l6, ?_, zz⟩
  rw [b336_1055 mw_l_79, e1, mj_bk_i, b336_1059 mw_l_79, e2, mj_bk_i, b336_1063 mw_l_79, if_pos rfl]
theorem L15 (hA : gd A) (hC : CI s A) (hM : MI s A) (hi : i + 6 ≤ X.1) (hX : X.1 ≤ 3072) : ∃ t A' l5' l6', mj_exec X (d + 102) 336 1068 [some (.ref 1000002), some (.ref 0), some (.ref 42), some (.ref 79), some (.int (nI i)), l5, l6] [] (mw_U s) = mj_exec X (d + 102) 336 2136 [some (.ref 1000002), some (.ref 0), some (.ref 42), some (.ref 79), some (.int (nI i)), l5', l6'] [] (mw_U t) ∧ ZZ s t A' := by
  have c0 : (nI 0).toNatClampNeg = 0 := mn_clamp (by omega)
  obtain ⟨k, b, t1, t2, A', e1, e2, e3, hk, e4, zz⟩ := run_w (X := X) (d := d + 100) (ar := [.int (X.2 (nI i + nI 1).toNatClampNeg), .int (X.2 (nI i + nI 2).toNatClampNeg)]) (aw := [.ref 0, .int (X.2 (nI i + nI 1).toNatClampNeg), .int (X.2 (nI i + nI 2).toNatClampNeg), .ref 79]) (φ := Int32.toInt64) (JC_later hA) hC hM hA (by omega) (fun s t v e => w322_v e) (fun s t e k hm he => by
    rcases List.mem_cons.mp hm with z | z
    · obtain ⟨rfl, rfl⟩ := Prod.mk.inj z
      exact w322_x0 he
    · obtain ⟨rfl, rfl⟩ := Prod.mk.inj (List.mem_singleton.mp z)
      exact w322_x1 he) (fun e k hm => by
    rcases List.mem_cons.mp hm with z | z
    · obtain ⟨rfl, rfl⟩ := Prod.mk.inj z
      decide
    · obtain ⟨rfl, rfl⟩ := Prod.mk.inj (List.mem_singleton.mp z)
      decide)
  refine ⟨t2, A', some (.int (nI k)), some (.int b), ?_, zz⟩
  rw [b336_1068 mw_l_79, if_pos (hin_ok hi hX (by decide)), if_pos (hin_ok hi hX (by decide)), e1, mj_bk_i, b336_1085 mw_l_79, if_pos (hin_ok hi hX (by decide)), if_pos (hin_ok hi hX (by decide)), e2, mj_bk_i, b336_1103 mw_l_79, b194, b194_0, e3, mj_bk_i, b336_1109 mw_l_79, if_pos rfl, b336_1116 mw_l_79]
  by_cases h0 : k = 0
  · subst h0
    rw [if_pos (by decide), b336_1121 mw_l_79, if_pos (by decide), c0, e4 rfl, lg_self, if_pos rfl, b336_1133 mw_l_79]
  · rw [if_neg (kn0 (by omega) hk), b336_1133 mw_l_79]
theorem L16 (hA : gd A) (hC : CI s A) (hM : MI s A) (hi : i + 6 ≤ X.1) (hX : X.1 ≤ 3072) : ∃ t A' l5' l6', mj_exec X (d + 102) 336 1136 [some (.ref 1000002), some (.ref 0), some (.ref 42), some (.ref 79), some (.int (nI i)), l5, l6] [] (mw_U s) = mj_exec X (d + 102) 336 2136 [some (.ref 1000002), some (.ref 0), some (.ref 42), some (.ref 79), some (.int (nI i)), l5', l6'] [] (mw_U t) ∧ ZZ s t A' := by
  have c0 : (nI 0).toNatClampNeg = 0 := mn_clamp (by omega)
  obtain ⟨k, b, t1, t2, A', e1, e2, e3, hk, e4, zz⟩ := run_w (X := X) (d := d + 100) (ar := [.int (X.2 (nI i + nI 1).toNatClampNeg), .int (X.2 (nI i + nI 2).toNatClampNeg)]) (aw := [.ref 0, .int (X.2 (nI i + nI 1).toNatClampNeg), .int (X.2 (nI i + nI 2).toNatClampNeg), .ref 79]) (φ := Int32.toInt64) (JC_comes hA) hC hM hA (by omega) (fun s t v e => w323_v e) (fun s t e k hm he => by
    obtain ⟨rfl, rfl⟩ := (Prod.mk.inj (List.mem_singleton.mp hm))
    exact w323_x0 he) (fun e k hm => by
    obtain ⟨rfl, rfl⟩ := (Prod.mk.inj (List.mem_singleton.mp hm))
    decide)
  refine ⟨t2, A', some (.int (nI k)), some (.int b), ?_, zz⟩
  rw [b336_1136 mw_l_79, if_pos (hin_ok hi hX (by decide)), if_pos (hin_ok hi hX (by decide)), e1, mj_bk_i, b336_1153 mw_l_79, if_pos (hin_ok hi hX (by decide)), if_pos (hin_ok hi hX (by decide)), e2, mj_bk_i, b336_1171 mw_l_79, b194, b194_0, e3, mj_bk_i, b336_1177 mw_l_79, if_pos rfl, b336_1184 mw_l_79]
  by_cases h0 : k = 0
  · subst h0
    rw [if_pos (by decide), b336_1189 mw_l_79, if_pos (by decide), c0, e4 rfl, lg_self, if_pos rfl, b336_1201 mw_l_79]
  · rw [if_neg (kn0 (by omega) hk), b336_1201 mw_l_79]
theorem L17 (hA : gd A) (hC : CI s A) (hM : MI s A) (hi : i + 6 ≤ X.1) (hX : X.1 ≤ 3072) : ∃ t A' l5' l6', mj_exec X (d + 102) 336 1204 [some (.ref 1000002), some (.ref 0), some (.ref 42), some (.ref 79), some (.int (nI i)), l5, l6] [] (mw_U s) = mj_exec X (d + 102) 336 2136 [some (.ref 1000002), some (.ref 0), some (.ref 42), some (.ref 79), some (.int (nI i)), l5', l6'] [] (mw_U t) ∧ ZZ s t A' := by
  obtain ⟨b, t1, t2, A', e1, e2, zz⟩ := run_d (X := X) (d := d + 101) (ar := []) (JC_camps hA) hC hM (by omega)
  refine ⟨t2, A', l5, l6, ?_, zz⟩
  rw [b336_1204 mw_l_79, e1, mj_bk_i, b336_1208 mw_l_79, e2, mj_bk_i, b336_1212 mw_l_79, if_pos rfl]
theorem L18 (hA : gd A) (hC : CI s A) (hM : MI s A) (hi : i + 6 ≤ X.1) (hX : X.1 ≤ 3072) : ∃ t A' l5' l6', mj_exec X (d + 102) 336 1217 [some (.ref 1000002), some (.ref 0), some (.ref 42), some (.ref 79), some (.int (nI i)), l5, l6] [] (mw_U s) = mj_exec X (d + 102) 336 2136 [some (.ref 1000002), some (.ref 0), some (.ref 42), some (.ref 79), some (.int (nI i)), l5', l6'] [] (mw_U t) ∧ ZZ s t A' := by
  have c0 : (nI 0).toNatClampNeg = 0 := mn_clamp (by omega)
  obtain ⟨k, b, t1, t2, A', e1, e2, e3, hk, e4, zz⟩ := run_w (X := X) (d := d + 100) (ar := [.int (X.2 (nI i + nI 1).toNatClampNeg), .int (X.2 (nI i + nI 2).toNatClampNeg)]) (aw := [.ref 0, .int (X.2 (nI i + nI 1).toNatClampNeg), .int (X.2 (nI i + nI 2).toNatClampNeg), .ref 79]) (φ := Int32.toInt64) (JC_between hA) hC hM hA (by omega) (fun s t v e => w324_v e) (fun s t e k hm he => by
    obtain ⟨rfl, rfl⟩ := (Prod.mk.inj (List.mem_singleton.mp hm))
    exact w324_x0 he) (fun e k hm => by
    obtain ⟨rfl, rfl⟩ := (Prod.mk.inj (List.mem_singleton.mp hm))
    decide)
  refine ⟨t2, A', some (.int (nI k)), some (.int b), ?_, zz⟩
  rw [b336_1217 mw_l_79, if_pos (hin_ok hi hX (by decide)), if_pos (hin_ok hi hX (by decide)), e1, mj_bk_i, b336_1234 mw_l_79, if_pos (hin_ok hi hX (by decide)), if_pos (hin_ok hi hX (by decide)), e2, mj_bk_i, b336_1252 mw_l_79, b194, b194_0, e3, mj_bk_i, b336_1258 mw_l_79, if_pos rfl, b336_1265 mw_l_79]
  by_cases h0 : k = 0
  · subst h0
    rw [if_pos (by decide), b336_1270 mw_l_79, if_pos (by decide), c0, e4 rfl, lg_self, if_pos rfl, b336_1282 mw_l_79]
  · rw [if_neg (kn0 (by omega) hk), b336_1282 mw_l_79]
theorem L19 (hA : gd A) (hC : CI s A) (hM : MI s A) (hi : i + 6 ≤ X.1) (hX : X.1 ≤ 3072) : ∃ t A' l5' l6', mj_exec X (d + 102) 336 1285 [some (.ref 1000002), some (.ref 0), some (.ref 42), some (.ref 79), some (.int (nI i)), l5, l6] [] (mw_U s) = mj_exec X (d + 102) 336 2136 [some (.ref 1000002), some (.ref 0), some (.ref 42), some (.ref 79), some (.int (nI i)), l5', l6'] [] (mw_U t) ∧ ZZ s t A' := by
  obtain ⟨b, t1, t2, A', e1, e2, zz⟩ := run_d (X := X) (d := d + 101) (ar := []) (JC_drawers hA) hC hM (by omega)
  refine ⟨t2, A', l5, l6, ?_, zz⟩
  rw [b336_1285 mw_l_79, e1, mj_bk_i, b336_1289 mw_l_79, e2, mj_bk_i, b336_1293 mw_l_79, if_pos rfl]
theorem L20 (hA : gd A) (hC : CI s A) (hM : MI s A) (hi : i + 6 ≤ X.1) (hX : X.1 ≤ 3072) : ∃ t A' l5' l6', mj_exec X (d + 102) 336 1298 [some (.ref 1000002), some (.ref 0), some (.ref 42), some (.ref 79), some (.int (nI i)), l5, l6] [] (mw_U s) = mj_exec X (d + 102) 336 2136 [some (.ref 1000002), some (.ref 0), some (.ref 42), some (.ref 79), some (.int (nI i)), l5', l6'] [] (mw_U t) ∧ ZZ s t A' := by
  obtain ⟨b, t1, t2, A', e1, e2, zz⟩ := run_d (X := X) (d := d + 101) (ar := []) (JC_deaths hA) hC hM (by omega)
  refine ⟨t2, A', l5, l6, ?_, zz⟩
  rw [b336_1298 mw_l_79, e1, mj_bk_i, b336_1302 mw_l_79, e2, mj_bk_i, b336_1306 mw_l_79, if_pos rfl]
theorem L21 (hA : gd A) (hC : CI s A) (hM : MI s A) (hi : i + 6 ≤ X.1) (hX : X.1 ≤ 3072) : ∃ t A' l5' l6', mj_exec X (d + 102) 336 1311 [some (.ref 1000002), some (.ref 0), some (.ref 42), some (.ref 79), some (.int (nI i)), l5, l6] [] (mw_U s) = mj_exec X (d + 102) 336 2136 [some (.ref 1000002), some (.ref 0), some (.ref 42), some (.ref 79), some (.int (nI i)), l5', l6'] [] (mw_U t) ∧ ZZ s t A' := by
  have c0 : (nI 0).toNatClampNeg = 0 := mn_clamp (by omega)
  obtain ⟨k, b, t1, t2, A', e1, e2, e3, hk, e4, zz⟩ := run_w (X := X) (d := d + 100) (ar := [.int (X.2 (nI i + nI 1).toNatClampNeg)]) (aw := [.ref 0, .int (X.2 (nI i + nI 1).toNatClampNeg), .ref 79]) (φ := Int32.toInt64) (JC_friends hA) hC hM hA (by omega) (fun s t v e => w325_v e) (fun s t e k hm he => by
    obtain ⟨rfl, rfl⟩ := (Prod.mk.inj (List.mem_singleton.mp hm))
    exact w325_x0 he) (fun e k hm => by
    obtain ⟨rfl, rfl⟩ := (Prod.mk.inj (List.mem_singleton.mp hm))
    decide)
  refine ⟨t2, A', some (.int (nI k)), some (.int b), ?_, zz⟩
  rw [b336_1311 mw_l_79, if_pos (hin_ok hi hX (by decide)), e1, mj_bk_i, b336_1322 mw_l_79, if_pos (hin_ok hi hX (by decide)), e2, mj_bk_i, b336_1334 mw_l_79, b194, b194_0, e3, mj_bk_i, b336_1340 mw_l_79, if_pos rfl, b336_1347 mw_l_79]
  by_cases h0 : k = 0
  · subst h0
    rw [if_pos (by decide), b336_1352 mw_l_79, if_pos (by decide), c0, e4 rfl, lg_self, if_pos rfl, b336_1364 mw_l_79]
  · rw [if_neg (kn0 (by omega) hk), b336_1364 mw_l_79]
theorem L22 (hA : gd A) (hC : CI s A) (hM : MI s A) (hi : i + 6 ≤ X.1) (hX : X.1 ≤ 3072) : ∃ t A' l5' l6', mj_exec X (d + 102) 336 1367 [some (.ref 1000002), some (.ref 0), some (.ref 42), some (.ref 79), some (.int (nI i)), l5, l6] [] (mw_U s) = mj_exec X (d + 102) 336 2136 [some (.ref 1000002), some (.ref 0), some (.ref 42), some (.ref 79), some (.int (nI i)), l5', l6'] [] (mw_U t) ∧ ZZ s t A' := by
  have c0 : (nI 0).toNatClampNeg = 0 := mn_clamp (by omega)
  obtain ⟨k, b, t1, t2, A', e1, e2, e3, hk, e4, zz⟩ := run_w (X := X) (d := d + 100) (ar := [.int (X.2 (nI i + nI 1).toNatClampNeg)]) (aw := [.ref 0, .int (X.2 (nI i + nI 1).toNatClampNeg), .ref 79]) (φ := Int32.toInt64) (JC_spared hA) hC hM hA (by omega) (fun s t v e => w326_v e) (fun s t e k hm he => by
    obtain ⟨rfl, rfl⟩ := (Prod.mk.inj (List.mem_singleton.mp hm))
    exact w326_x0 he) (fun e k hm => by
    obtain ⟨rfl, rfl⟩ := (Prod.mk.inj (List.mem_singleton.mp hm))
    decide)
  refine ⟨t2, A', some (.int (nI k)), some (.int b), ?_, zz⟩
  rw [b336_1367 mw_l_79, if_pos (hin_ok hi hX (by decide)), e1, mj_bk_i, b336_1378 mw_l_79, if_pos (hin_ok hi hX (by decide)), e2, mj_bk_i, b336_1390 mw_l_79, b194, b194_0, e3, mj_bk_i, b336_1396 mw_l_79, if_pos rfl, b336_1403 mw_l_79]
  by_cases h0 : k = 0
  · subst h0
    rw [if_pos (by decide), b336_1408 mw_l_79, if_pos (by decide), c0, e4 rfl, lg_self, if_pos rfl, b336_1420 mw_l_79]
  · rw [if_neg (kn0 (by omega) hk), b336_1420 mw_l_79]
theorem L23 (hA : gd A) (hC : CI s A) (hM : MI s A) (hi : i + 6 ≤ X.1) (hX : X.1 ≤ 3072) : ∃ t A' l5' l6', mj_exec X (d + 102) 336 1423 [some (.ref 1000002), some (.ref 0), some (.ref 42), some (.ref 79), some (.int (nI i)), l5, l6] [] (mw_U s) = mj_exec X (d + 102) 336 2136 [some (.ref 1000002), some (.ref 0), some (.ref 42), some (.ref 79), some (.int (nI i)), l5', l6'] [] (mw_U t) ∧ ZZ s t A' := by
  have c0 : (nI 0).toNatClampNeg = 0 := mn_clamp (by omega)
  obtain ⟨k, b, t1, t2, A', e1, e2, e3, hk, e4, zz⟩ := run_w (X := X) (d := d + 100) (ar := [.int (X.2 (nI i + nI 1).toNatClampNeg)]) (aw := [.ref 0, .int (X.2 (nI i + nI 1).toNatClampNeg), .ref 79]) (φ := Int32.toInt64) (JC_match hA) hC hM hA (by omega) (fun s t v e => w327_v e) (fun s t e k hm he => by
    obtain ⟨rfl, rfl⟩ := (Prod.mk.inj (List.mem_singleton.mp hm))
    exact w327_x0 he) (fun e k hm => by
    obtain ⟨rfl, rfl⟩ := (Prod.mk.inj (List.mem_singleton.mp hm))
    decide)
  refine ⟨t2, A', some (.int (nI k)), some (.int b), ?_, zz⟩
  rw [b336_1423 mw_l_79, if_pos (hin_ok hi hX (by decide)), e1, mj_bk_i, b336_1434 mw_l_79, if_pos (hin_ok hi hX (by decide)), e2, mj_bk_i, b336_1446 mw_l_79, b194, b194_0, e3, mj_bk_i, b336_1452 mw_l_79, if_pos rfl, b336_1459 mw_l_79]
  by_cases h0 : k = 0
  · subst h0
    rw [if_pos (by decide), b336_1464 mw_l_79, if_pos (by decide), c0, e4 rfl, lg_self, if_pos rfl, b336_1476 mw_l_79]
  · rw [if_neg (kn0 (by omega) hk), b336_1476 mw_l_79]
theorem L24 (hA : gd A) (hC : CI s A) (hM : MI s A) (hi : i + 6 ≤ X.1) (hX : X.1 ≤ 3072) : ∃ t A' l5' l6', mj_exec X (d + 102) 336 1479 [some (.ref 1000002), some (.ref 0), some (.ref 42), some (.ref 79), some (.int (nI i)), l5, l6] [] (mw_U s) = mj_exec X (d + 102) 336 2136 [some (.ref 1000002), some (.ref 0), some (.ref 42), some (.ref 79), some (.int (nI i)), l5', l6'] [] (mw_U t) ∧ ZZ s t A' := by
  obtain ⟨b, t1, t2, A', e1, e2, zz⟩ := run_d (X := X) (d := d + 101) (ar := []) (JC_ready hA) hC hM (by omega)
  refine ⟨t2, A', l5, l6, ?_, zz⟩
  rw [b336_1479 mw_l_79, e1, mj_bk_i, b336_1483 mw_l_79, e2, mj_bk_i, b336_1487 mw_l_79, if_pos rfl]
theorem L25 (hA : gd A) (hC : CI s A) (hM : MI s A) (hi : i + 6 ≤ X.1) (hX : X.1 ≤ 3072) : ∃ t A' l5' l6', mj_exec X (d + 102) 336 1492 [some (.ref 1000002), some (.ref 0), some (.ref 42), some (.ref 79), some (.int (nI i)), l5, l6] [] (mw_U s) = mj_exec X (d + 102) 336 2136 [some (.ref 1000002), some (.ref 0), some (.ref 42), some (.ref 79), some (.int (nI i)), l5', l6'] [] (mw_U t) ∧ ZZ s t A' := by
  obtain ⟨b, t1, t2, A', e1, e2, zz⟩ := run_d (X := X) (d := d + 101) (ar := []) (JC_mildest hA) hC hM (by omega)
  refine ⟨t2, A', l5, l6, ?_, zz⟩
  rw [b336_1492 mw_l_79, e1, mj_bk_i, b336_1496 mw_l_79, e2, mj_bk_i, b336_1500 mw_l_79, if_pos rfl]
theorem L26 (hA : gd A) (hC : CI s A) (hM : MI s A) (hi : i + 6 ≤ X.1) (hX : X.1 ≤ 3072) : ∃ t A' l5' l6', mj_exec X (d + 102) 336 1505 [some (.ref 1000002), some (.ref 0), some (.ref 42), some (.ref 79), some (.int (nI i)), l5, l6] [] (mw_U s) = mj_exec X (d + 102) 336 2136 [some (.ref 1000002), some (.ref 0), some (.ref 42), some (.ref 79), some (.int (nI i)), l5', l6'] [] (mw_U t) ∧ ZZ s t A' := by
  have c0 : (nI 0).toNatClampNeg = 0 := mn_clamp (by omega)
  obtain ⟨k, b, t1, t2, A', e1, e2, e3, hk, e4, zz⟩ := run_w (X := X) (d := d + 100) (ar := [.int (X.2 (nI i + nI 1).toNatClampNeg)]) (aw := [.ref 0, .int (X.2 (nI i + nI 1).toNatClampNeg), .ref 79]) (φ := Int32.toInt64) (JC_coldest hA) hC hM hA (by omega) (fun s t v e => w328_v e) (fun s t e k hm he => by
    obtain ⟨rfl, rfl⟩ := (Prod.mk.inj (List.mem_singleton.mp hm))
    exact w328_x1 he) (fun e k hm => by
    obtain ⟨rfl, rfl⟩ := (Prod.mk.inj (List.mem_singleton.mp hm))
    decide)
  refine ⟨t2, A', some (.int (nI k)), some (.int b), ?_, zz⟩
  rw [b336_1505 mw_l_79, if_pos (hin_ok hi hX (by decide)), e1, mj_bk_i, b336_1516 mw_l_79, if_pos (hin_ok hi hX (by decide)), e2, mj_bk_i, b336_1528 mw_l_79, b194, b194_0, e3, mj_bk_i, b336_1534 mw_l_79, if_pos rfl, b336_1541 mw_l_79]
  by_cases h0 : k = 0
  · subst h0
    rw [if_pos (by decide), b336_1546 mw_l_79, if_pos (by decide), c0, e4 rfl, lg_self, if_pos rfl, b336_1558 mw_l_79]
  · rw [if_neg (kn0 (by omega) hk), b336_1558 mw_l_79]
theorem L27 (hA : gd A) (hC : CI s A) (hM : MI s A) (hi : i + 6 ≤ X.1) (hX : X.1 ≤ 3072) : ∃ t A' l5' l6', mj_exec X (d + 102) 336 1561 [some (.ref 1000002), some (.ref 0), some (.ref 42), some (.ref 79), some (.int (nI i)), l5, l6] [] (mw_U s) = mj_exec X (d + 102) 336 2136 [some (.ref 1000002), some (.ref 0), some (.ref 42), some (.ref 79), some (.int (nI i)), l5', l6'] [] (mw_U t) ∧ ZZ s t A' := by
  obtain ⟨b, t1, t2, A', e1, e2, zz⟩ := run_d (X := X) (d := d + 101) (ar := []) (JC_triples hA) hC hM (by omega)
  refine ⟨t2, A', l5, l6, ?_, zz⟩
  rw [b336_1561 mw_l_79, e1, mj_bk_i, b336_1565 mw_l_79, e2, mj_bk_i, b336_1569 mw_l_79, if_pos rfl]
theorem L28 (hA : gd A) (hC : CI s A) (hM : MI s A) (hi : i + 6 ≤ X.1) (hX : X.1 ≤ 3072) : ∃ t A' l5' l6', mj_exec X (d + 102) 336 1574 [some (.ref 1000002), some (.ref 0), some (.ref 42), some (.ref 79), some (.int (nI i)), l5, l6] [] (mw_U s) = mj_exec X (d + 102) 336 2136 [some (.ref 1000002), some (.ref 0), some (.ref 42), some (.ref 79), some (.int (nI i)), l5', l6'] [] (mw_U t) ∧ ZZ s t A' := by
  obtain ⟨b, t1, t2, A', e1, e2, zz⟩ := run_d (X := X) (d := d + 101) (ar := []) (JC_alone hA) hC hM (by omega)
  refine ⟨t2, A', l5, l6, ?_, zz⟩
  rw [b336_1574 mw_l_79, e1, mj_bk_i, b336_1578 mw_l_79, e2, mj_bk_i, b336_1582 mw_l_79, if_pos rfl]
theorem L29 (hA : gd A) (hC : CI s A) (hM : MI s A) (hi : i + 6 ≤ X.1) (hX : X.1 ≤ 3072) : ∃ t A' l5' l6', mj_exec X (d + 102) 336 1587 [some (.ref 1000002), some (.ref 0), some (.ref 42), some (.ref 79), some (.int (nI i)), l5, l6] [] (mw_U s) = mj_exec X (d + 102) 336 2136 [some (.ref 1000002), some (.ref 0), some (.ref 42), some (.ref 79), some (.int (nI i)), l5', l6'] [] (mw_U t) ∧ ZZ s t A' := by
  have c0 : (nI 0).toNatClampNeg = 0 := mn_clamp (by omega)
  obtain ⟨k, b, t1, t2, A', e1, e2, e3, hk, e4, zz⟩ := run_w (X := X) (d := d + 100) (ar := [.int (X.2 (nI i + nI 1).toNatClampNeg), .int (X.2 (nI i + nI 2).toNatClampNeg)]) (aw := [.ref 0, .int (X.2 (nI i + nI 1).toNatClampNeg), .int (X.2 (nI i + nI 2).toNatClampNeg), .ref 79]) (φ := Int32.toInt64) (JC_foes hA) hC hM hA (by omega) (fun s t v e => w329_v e) (fun s t e k hm he => by
    obtain ⟨rfl, rfl⟩ := (Prod.mk.inj (List.mem_singleton.mp hm))
    exact w329_x0 he) (fun e k hm => by
    obtain ⟨rfl, rfl⟩ := (Prod.mk.inj (List.mem_singleton.mp hm))
    decide)
  refine ⟨t2, A', some (.int (nI k)), some (.int b), ?_, zz⟩
  rw [b336_1587 mw_l_79, if_pos (hin_ok hi hX (by decide)), if_pos (hin_ok hi hX (by decide)), e1, mj_bk_i, b336_1604 mw_l_79, if_pos (hin_ok hi hX (by decide)), if_pos (hin_ok hi hX (by decide)), e2, mj_bk_i, b336_1622 mw_l_79, b194, b194_0, e3, mj_bk_i, b336_1628 mw_l_79, if_pos rfl, b336_1635 mw_l_79]
  by_cases h0 : k = 0
  · subst h0
    rw [if_pos (by decide), b336_1640 mw_l_79, if_pos (by decide), c0, e4 rfl, lg_self, if_pos rfl, b336_1652 mw_l_79]
  · rw [if_neg (kn0 (by omega) hk), b336_1652 mw_l_79]
theorem L30 (hA : gd A) (hC : CI s A) (hM : MI s A) (hi : i + 6 ≤ X.1) (hX : X.1 ≤ 3072) : ∃ t A' l5' l6', mj_exec X (d + 102) 336 1655 [some (.ref 1000002), some (.ref 0), some (.ref 42), some (.ref 79), some (.int (nI i)), l5, l6] [] (mw_U s) = mj_exec X (d + 102) 336 2136 [some (.ref 1000002), some (.ref 0), some (.ref 42), some (.ref 79), some (.int (nI i)), l5', l6'] [] (mw_U t) ∧ ZZ s t A' := by
  have c0 : (nI 0).toNatClampNeg = 0 := mn_clamp (by omega)
  obtain ⟨k, b, t1, t2, A', e1, e2, e3, hk, e4, zz⟩ := run_w (X := X) (d := d + 100) (ar := [.int (X.2 (nI i + nI 1).toNatClampNeg)]) (aw := [.ref 0, .int (X.2 (nI i + nI 1).toNatClampNeg), .ref 79]) (φ := Int32.toInt64) (JC_word hA) hC hM hA (by omega) (fun s t v e => w330_v e) (fun s t e k hm he => by
    obtain ⟨rfl, rfl⟩ := (Prod.mk.inj (List.mem_singleton.mp hm))
    exact w330_x0 he) (fun e k hm => by
    obtain ⟨rfl, rfl⟩ := (Prod.mk.inj (List.mem_singleton.mp hm))
    decide)
  refine ⟨t2, A', some (.int (nI k)), some (.int b), ?_, zz⟩
  rw [b336_1655 mw_l_79, if_pos (hin_ok hi hX (by decide)), e1, mj_bk_i, b336_1666 mw_l_79, if_pos (hin_ok hi hX (by decide)), e2, mj_bk_i, b336_1678 mw_l_79, b194, b194_0, e3, mj_bk_i, b336_1684 mw_l_79, if_pos rfl, b336_1691 mw_l_79]
  by_cases h0 : k = 0
  · subst h0
    rw [if_pos (by decide), b336_1696 mw_l_79, if_pos (by decide), c0, e4 rfl, lg_self, if_pos rfl, b336_1708 mw_l_79]
  · rw [if_neg (kn0 (by omega) hk), b336_1708 mw_l_79]
theorem L31 (hA : gd A) (hC : CI s A) (hM : MI s A) (hi : i + 6 ≤ X.1) (hX : X.1 ≤ 3072) : ∃ t A' l5' l6', mj_exec X (d + 102) 336 1711 [some (.ref 1000002), some (.ref 0), some (.ref 42), some (.ref 79), some (.int (nI i)), l5, l6] [] (mw_U s) = mj_exec X (d + 102) 336 2136 [some (.ref 1000002), some (.ref 0), some (.ref 42), some (.ref 79), some (.int (nI i)), l5', l6'] [] (mw_U t) ∧ ZZ s t A' := by
  obtain ⟨b, t1, t2, A', e1, e2, zz⟩ := run_d (X := X) (d := d + 101) (ar := []) (JC_single hA) hC hM (by omega)
  refine ⟨t2, A', l5, l6, ?_, zz⟩
  rw [b336_1711 mw_l_79, e1, mj_bk_i, b336_1715 mw_l_79, e2, mj_bk_i, b336_1719 mw_l_79, if_pos rfl]
theorem L32 (hA : gd A) (hC : CI s A) (hM : MI s A) (hi : i + 6 ≤ X.1) (hX : X.1 ≤ 3072) : ∃ t A' l5' l6', mj_exec X (d + 102) 336 1724 [some (.ref 1000002), some (.ref 0), some (.ref 42), some (.ref 79), some (.int (nI i)), l5, l6] [] (mw_U s) = mj_exec X (d + 102) 336 2136 [some (.ref 1000002), some (.ref 0), some (.ref 42), some (.ref 79), some (.int (nI i)), l5', l6'] [] (mw_U t) ∧ ZZ s t A' := by
  obtain ⟨b, t1, t2, A', e1, e2, zz⟩ := run_d (X := X) (d := d + 101) (ar := []) (JC_cuts hA) hC hM (by omega)
  refine ⟨t2, A', l5, l6, ?_, zz⟩
  rw [b336_1724 mw_l_79, e1, mj_bk_i, b336_1728 mw_l_79, e2, mj_bk_i, b336_1732 mw_l_79, if_pos rfl]
theorem L33 (hA : gd A) (hC : CI s A) (hM : MI s A) (hi : i + 6 ≤ X.1) (hX : X.1 ≤ 3072) : ∃ t A' l5' l6', mj_exec X (d + 102) 336 1737 [some (.ref 1000002), some (.ref 0), some (.ref 42), some (.ref 79), some (.int (nI i)), l5, l6] [] (mw_U s) = mj_exec X (d + 102) 336 2136 [some (.ref 1000002), some (.ref 0), some (.ref 42), some (.ref 79), some (.int (nI i)), l5', l6'] [] (mw_U t) ∧ ZZ s t A' := by
  have c0 : (nI 0).toNatClampNeg = 0 := mn_clamp (by omega)
  obtain ⟨k, b, t1, t2, A', e1, e2, e3, hk, e4, zz⟩ := run_w (X := X) (d := d + 100) (ar := [.int (X.2 (nI i + nI 1).toNatClampNeg), .int (X.2 (nI i + nI 2).toNatClampNeg), .int (X.2 (nI i + nI 3).toNatClampNeg), .int (X.2 (nI i + nI 4).toNatClampNeg)]) (aw := [.ref 0, .int (X.2 (nI i + nI 1).toNatClampNeg), .int (X.2 (nI i + nI 2).toNatClampNeg), .int (X.2 (nI i + nI 3).toNatClampNeg), .int (X.2 (nI i + nI 4).toNatClampNeg), .ref 79]) (φ := Int32.toInt64) (JC_see hA) hC hM hA (by omega) (fun s t v e => w331_v e) (fun s t e k hm he => by
    obtain ⟨rfl, rfl⟩ := (Prod.mk.inj (List.mem_singleton.mp hm))
    exact w331_x0 he) (fun e k hm => by
    obtain ⟨rfl, rfl⟩ := (Prod.mk.inj (List.mem_singleton.mp hm))
    decide)
  refine ⟨t2, A', some (.int (nI k)), some (.int b), ?_, zz⟩
  rw [b336_1737 mw_l_79, if_pos (hin_ok hi hX (by decide)), if_pos (hin_ok hi hX (by decide)), if_pos (hin_ok hi hX (by decide)), if_pos (hin_ok hi hX (by decide)), e1, mj_bk_i, b336_1766 mw_l_79, if_pos (hin_ok hi hX (by decide)), if_pos (hin_ok hi hX (by decide)), if_pos (hin_ok hi hX (by decide)), if_pos (hin_ok hi hX (by decide)), e2, mj_bk_i, b336_1796 mw_l_79, b194, b194_0, e3, mj_bk_i, b336_1802 mw_l_79, if_pos rfl, b336_1809 mw_l_79]
  by_cases h0 : k = 0
  · subst h0
    rw [if_pos (by decide), b336_1814 mw_l_79, if_pos (by decide), c0, e4 rfl, lg_self, if_pos rfl, b336_1826 mw_l_79]
  · rw [if_neg (kn0 (by omega) hk), b336_1826 mw_l_79]
theorem L34 (hA : gd A) (hC : CI s A) (hM : MI s A) (hi : i + 6 ≤ X.1) (hX : X.1 ≤ 3072) : ∃ t A' l5' l6', mj_exec X (d + 102) 336 1829 [some (.ref 1000002), some (.ref 0), some (.ref 42), some (.ref 79), some (.int (nI i)), l5, l6] [] (mw_U s) = mj_exec X (d + 102) 336 2136 [some (.ref 1000002), some (.ref 0), some (.ref 42), some (.ref 79), some (.int (nI i)), l5', l6'] [] (mw_U t) ∧ ZZ s t A' := by
  have c0 : (nI 0).toNatClampNeg = 0 := mn_clamp (by omega)
  obtain ⟨k, b, t1, t2, A', e1, e2, e3, hk, e4, zz⟩ := run_w (X := X) (d := d + 100) (ar := [.int (X.2 (nI i + nI 1).toNatClampNeg)]) (aw := [.ref 0, .int (X.2 (nI i + nI 1).toNatClampNeg), .ref 79]) (φ := Int32.toInt64) (JC_nerved hA) hC hM hA (by omega) (fun s t v e => w332_v e) (fun s t e k hm he => by
    obtain ⟨rfl, rfl⟩ := (Prod.mk.inj (List.mem_singleton.mp hm))
    exact w332_x0 he) (fun e k hm => by
    obtain ⟨rfl, rfl⟩ := (Prod.mk.inj (List.mem_singleton.mp hm))
    decide)
  refine ⟨t2, A', some (.int (nI k)), some (.int b), ?_, zz⟩
  rw [b336_1829 mw_l_79, if_pos (hin_ok hi hX (by decide)), e1, mj_bk_i, b336_1840 mw_l_79, if_pos (hin_ok hi hX (by decide)), e2, mj_bk_i, b336_1852 mw_l_79, b194, b194_0, e3, mj_bk_i, b336_1858 mw_l_79, if_pos rfl, b336_1865 mw_l_79]
  by_cases h0 : k = 0
  · subst h0
    rw [if_pos (by decide), b336_1870 mw_l_79, if_pos (by decide), c0, e4 rfl, lg_self, if_pos rfl, b336_1882 mw_l_79]
  · rw [if_neg (kn0 (by omega) hk), b336_1882 mw_l_79]
theorem L35 (hA : gd A) (hC : CI s A) (hM : MI s A) (hi : i + 6 ≤ X.1) (hX : X.1 ≤ 3072) : ∃ t A' l5' l6', mj_exec X (d + 102) 336 1885 [some (.ref 1000002), some (.ref 0), some (.ref 42), some (.ref 79), some (.int (nI i)), l5, l6] [] (mw_U s) = mj_exec X (d + 102) 336 2136 [some (.ref 1000002), some (.ref 0), some (.ref 42), some (.ref 79), some (.int (nI i)), l5', l6'] [] (mw_U t) ∧ ZZ s t A' := by
  have c0 : (nI 0).toNatClampNeg = 0 := mn_clamp (by omega)
  obtain ⟨k, b, t1, t2, A', e1, e2, e3, hk, e4, zz⟩ := run_w (X := X) (d := d + 100) (ar := [.int (X.2 (nI i + nI 1).toNatClampNeg)]) (aw := [.ref 0, .int (X.2 (nI i + nI 1).toNatClampNeg), .ref 79]) (φ := Int32.toInt64) (JC_look hA) hC hM hA (by omega) (fun s t v e => w333_v e) (fun s t e k hm he => by
    obtain ⟨rfl, rfl⟩ := (Prod.mk.inj (List.mem_singleton.mp hm))
    exact w333_x0 he) (fun e k hm => by
    obtain ⟨rfl, rfl⟩ := (Prod.mk.inj (List.mem_singleton.mp hm))
    decide)
  refine ⟨t2, A', some (.int (nI k)), some (.int b), ?_, zz⟩
  rw [b336_1885 mw_l_79, if_pos (hin_ok hi hX (by decide)), e1, mj_bk_i, b336_1896 mw_l_79, if_pos (hin_ok hi hX (by decide)), e2, mj_bk_i, b336_1908 mw_l_79, b194, b194_0, e3, mj_bk_i, b336_1914 mw_l_79, if_pos rfl, b336_1921 mw_l_79]
  by_cases h0 : k = 0
  · subst h0
    rw [if_pos (by decide), b336_1926 mw_l_79, if_pos (by decide), c0, e4 rfl, lg_self, if_pos rfl, b336_1938 mw_l_79]
  · rw [if_neg (kn0 (by omega) hk), b336_1938 mw_l_79]
theorem L36 (hA : gd A) (hC : CI s A) (hM : MI s A) (hi : i + 6 ≤ X.1) (hX : X.1 ≤ 3072) : ∃ t A' l5' l6', mj_exec X (d + 102) 336 1941 [some (.ref 1000002), some (.ref 0), some (.ref 42), some (.ref 79), some (.int (nI i)), l5, l6] [] (mw_U s) = mj_exec X (d + 102) 336 2136 [some (.ref 1000002), some (.ref 0), some (.ref 42), some (.ref 79), some (.int (nI i)), l5', l6'] [] (mw_U t) ∧ ZZ s t A' := by
  obtain ⟨t1, t2, A', e1, e2, zz⟩ := run_n (X := X) (d := d + 101) (JC_forget hA) hC hM (by omega)
  refine ⟨t2, A', l5, l6, ?_, zz⟩
  rw [b336_1941 mw_l_79, e1, mj_bk_v, b336_1945 mw_l_79, e2, mj_bk_v, b336_1949 mw_l_79]
theorem L37 (hA : gd A) (hC : CI s A) (hM : MI s A) (hi : i + 6 ≤ X.1) (hX : X.1 ≤ 3072) : ∃ t A' l5' l6', mj_exec X (d + 102) 336 1952 [some (.ref 1000002), some (.ref 0), some (.ref 42), some (.ref 79), some (.int (nI i)), l5, l6] [] (mw_U s) = mj_exec X (d + 102) 336 2136 [some (.ref 1000002), some (.ref 0), some (.ref 42), some (.ref 79), some (.int (nI i)), l5', l6'] [] (mw_U t) ∧ ZZ s t A' := by
  have c0 : (nI 0).toNatClampNeg = 0 := mn_clamp (by omega)
  obtain ⟨k, b, t1, t2, A', e1, e2, e3, hk, e4, zz⟩ := run_w (X := X) (d := d + 100) (ar := [.int (X.2 (nI i + nI 1).toNatClampNeg), .int (X.2 (nI i + nI 2).toNatClampNeg), .int (X.2 (nI i + nI 3).toNatClampNeg)]) (aw := [.ref 0, .int (X.2 (nI i + nI 1).toNatClampNeg), .int (X.2 (nI i + nI 2).toNatClampNeg), .int (X.2 (nI i + nI 3).toNatClampNeg), .ref 79]) (φ := Int32.toInt64) (JC_game hA) hC hM hA (by omega) (fun s t v e => w334_v e) (fun s t e k hm he => by
    rcases List.mem_cons.mp hm with z | z
    · obtain ⟨rfl, rfl⟩ := Prod.mk.inj z
      exact w334_x0 he
    · obtain ⟨rfl, rfl⟩ := Prod.mk.inj (List.mem_singleton.mp z)
      exact w334_x1 he) (fun e k hm => by
    rcases List.mem_cons.mp hm with z | z
    · obtain ⟨rfl, rfl⟩ := Prod.mk.inj z
      decide
    · obtain ⟨rfl, rfl⟩ := Prod.mk.inj (List.mem_singleton.mp z)
      decide)
  refine ⟨t2, A', some (.int (nI k)), some (.int b), ?_, zz⟩
  rw [b336_1952 mw_l_79, if_pos (hin_ok hi hX (by decide)), if_pos (hin_ok hi hX (by decide)), if_pos (hin_ok hi hX (by decide)), e1, mj_bk_i, b336_1975 mw_l_79, if_pos (hin_ok hi hX (by decide)), if_pos (hin_ok hi hX (by decide)), if_pos (hin_ok hi hX (by decide)), e2, mj_bk_i, b336_1999 mw_l_79, b194, b194_0, e3, mj_bk_i, b336_2005 mw_l_79, if_pos rfl, b336_2012 mw_l_79]
  by_cases h0 : k = 0
  · subst h0
    rw [if_pos (by decide), b336_2017 mw_l_79, if_pos (by decide), c0, e4 rfl, lg_self, if_pos rfl, b336_2029 mw_l_79]
  · rw [if_neg (kn0 (by omega) hk), b336_2029 mw_l_79]
theorem L38 (hA : gd A) (hC : CI s A) (hM : MI s A) (hi : i + 6 ≤ X.1) (hX : X.1 ≤ 3072) : ∃ t A' l5' l6', mj_exec X (d + 102) 336 2032 [some (.ref 1000002), some (.ref 0), some (.ref 42), some (.ref 79), some (.int (nI i)), l5, l6] [] (mw_U s) = mj_exec X (d + 102) 336 2136 [some (.ref 1000002), some (.ref 0), some (.ref 42), some (.ref 79), some (.int (nI i)), l5', l6'] [] (mw_U t) ∧ ZZ s t A' := by
  have c0 : (nI 0).toNatClampNeg = 0 := mn_clamp (by omega)
  obtain ⟨k, b, t1, t2, A', e1, e2, e3, hk, e4, zz⟩ := run_w (X := X) (d := d + 100) (ar := [.int (X.2 (nI i + nI 1).toNatClampNeg), .int (X.2 (nI i + nI 2).toNatClampNeg), .int (X.2 (nI i + nI 3).toNatClampNeg)]) (aw := [.ref 0, .int (X.2 (nI i + nI 1).toNatClampNeg), .int (X.2 (nI i + nI 2).toNatClampNeg), .int (X.2 (nI i + nI 3).toNatClampNeg), .ref 79]) (φ := Int32.toInt64) (JC_years hA) hC hM hA (by omega) (fun s t v e => w335_v e) (fun s t e k hm he => by
    rcases List.mem_cons.mp hm with z | z
    · obtain ⟨rfl, rfl⟩ := Prod.mk.inj z
      exact w335_x0 he
    · obtain ⟨rfl, rfl⟩ := Prod.mk.inj (List.mem_singleton.mp z)
      exact w335_x1 he) (fun e k hm => by
    rcases List.mem_cons.mp hm with z | z
    · obtain ⟨rfl, rfl⟩ := Prod.mk.inj z
      decide
    · obtain ⟨rfl, rfl⟩ := Prod.mk.inj (List.mem_singleton.mp z)
      decide)
  refine ⟨t2, A', some (.int (nI k)), some (.int b), ?_, zz⟩
  rw [b336_2032 mw_l_79, if_pos (hin_ok hi hX (by decide)), if_pos (hin_ok hi hX (by decide)), if_pos (hin_ok hi hX (by decide)), e1, mj_bk_i, b336_2055 mw_l_79, if_pos (hin_ok hi hX (by decide)), if_pos (hin_ok hi hX (by decide)), if_pos (hin_ok hi hX (by decide)), e2, mj_bk_i, b336_2079 mw_l_79, b194, b194_0, e3, mj_bk_i, b336_2085 mw_l_79, if_pos rfl, b336_2092 mw_l_79]
  by_cases h0 : k = 0
  · subst h0
    rw [if_pos (by decide), b336_2097 mw_l_79, if_pos (by decide), c0, e4 rfl, lg_self, if_pos rfl, b336_2109 mw_l_79]
  · rw [if_neg (kn0 (by omega) hk), b336_2109 mw_l_79]
theorem L39 (hA : gd A) (hC : CI s A) (hM : MI s A) (hi : i + 6 ≤ X.1) (hX : X.1 ≤ 3072) : ∃ t A' l5' l6', mj_exec X (d + 102) 336 2112 [some (.ref 1000002), some (.ref 0), some (.ref 42), some (.ref 79), some (.int (nI i)), l5, l6] [] (mw_U s) = mj_exec X (d + 102) 336 2136 [some (.ref 1000002), some (.ref 0), some (.ref 42), some (.ref 79), some (.int (nI i)), l5', l6'] [] (mw_U t) ∧ ZZ s t A' := by
  obtain ⟨t1, t2, A', e1, e2, zz⟩ := run_n (X := X) (d := d + 101) (JC_image hA) hC hM (by omega)
  refine ⟨t2, A', l5, l6, ?_, zz⟩
  rw [b336_2112 mw_l_79, e1, mj_bk_v, b336_2116 mw_l_79, e2, mj_bk_v, b336_2120 mw_l_79]
theorem L40 (hA : gd A) (hC : CI s A) (hM : MI s A) (hi : i + 6 ≤ X.1) (hX : X.1 ≤ 3072) : ∃ t A' l5' l6', mj_exec X (d + 102) 336 2123 [some (.ref 1000002), some (.ref 0), some (.ref 42), some (.ref 79), some (.int (nI i)), l5, l6] [] (mw_U s) = mj_exec X (d + 102) 336 2136 [some (.ref 1000002), some (.ref 0), some (.ref 42), some (.ref 79), some (.int (nI i)), l5', l6'] [] (mw_U t) ∧ ZZ s t A' := by
  obtain ⟨b, t1, t2, A', e1, e2, zz⟩ := run_d (X := X) (d := d + 101) (ar := []) (JC_restore hA) hC hM (by omega)
  refine ⟨t2, A', l5, l6, ?_, zz⟩
  rw [b336_2123 mw_l_79, e1, mj_bk_i, b336_2127 mw_l_79, e2, mj_bk_i, b336_2131 mw_l_79, if_pos rfl]
end
