/-! the instructions that make cells, constants, and what the machine itself does: Object's constructor, Math, arraycopy -/
section MJN
variable {p : Program} {l : Launch} {e : Env} {R : Room} {s : State} {m : MethodId} {args : Array Value} {below : List Frame} {meth : Method} {c : Code} {ct : Nat → Option Value} {X : mj_X} {D : va_G} {A : Nat → Prop} {Q : State → Prop} {ads0 : List Nat} {c0 s0 d len pc : Nat} {M : mj_M} {L : mj_L} {st : List Value} {w : mj_W} {r : mj_T4}
theorem mj_push_inv {cc : mj_C} {n : Nat} (h : mj_push pc L st w cc n = some (.inl r)) : w.1.length < 1000000 ∧ r = (pc, L, .ref w.1.length :: st, (w.1 ++ [cc], w.2.1 + 1, w.2.2 + n)) := by
  unfold mj_push at h
  obtain ⟨h1, h2⟩ := mj_ifn h
  exact ⟨h1, mj_nx_inv h2⟩
theorem mj_K1 {g : ClassId} {ty : FieldType} (h : va_K D vwCl ([] ++ [(g, ty)]) s) : ArrOfT s g ty ∧ va_RA s g ty := h.2 0 (g, ty) rfl
theorem mj_o_newarray {t : ArrayType} (C : mj_Cx p l R s m args meth c ct X D A M d) (hd : decode M.2.1 pc = .ok (.newarray t, len)) (hs : mj_step X M (.newarray t) len pc L st w = some (.inl r)) (hcap : r.2.2.2.2.1 ≤ c0 + R.cells ∧ r.2.2.2.2.2 ≤ s0 + R.slots) (k : mj_G p l e R s m args below meth c ct D A Q ads0 c0 s0 r.1 r.2.1 r.2.2.1 r.2.2.2) : mj_G p l e R s m args below meth c ct D A Q ads0 c0 s0 pc L st w := by
  obtain ⟨rfl, hs1⟩ := mj_ifn hs
  obtain ⟨hx, hb, hown, hts, hF, hA, hK, -⟩ := id C
  intro ws H locs cells slots ls rst ⟨hP, hD, hS, hw, hp, hl, hr, hn, h1, h2⟩
  unfold mj_nar at hs1
  split at hs1
  · next n tt =>
    obtain ⟨hin, hs2⟩ := mj_ifm hs1
    have hn0 : ¬ n < 0 := fun z => hin (Or.inl z)
    have hbig : ¬ 1000000 < n.toNatClampNeg := fun z => hin (Or.inr z)
    obtain ⟨t1, rfl, hr1⟩ := mj_sr_int hr
    split at hs2
    · next cc hcc =>
      obtain ⟨hlt, rfl⟩ := mj_push_inv hs2
      dsimp only at hcap
      have hc1 : cells + 1 ≤ R.cells := by omega
      have hc2 : slots + n.toNatClampNeg ≤ R.slots := by omega
      unfold mj_newa at hcc
      split at hcc <;> cases hcc
      · exact va_newa (D := D) (cl := vwCl) (tys := []) (atype := .int) (ty := .int) hx hb (hts _ mj_ac_int) rfl hK hP hD hS hA (a0 := (n.toNatClampNeg, .inl fun _ => 0)) (fun _ => rfl) hn0 rfl (by simp only [componentBytes]; omega) hc1 hc2 hd (fun q g H1 hK' hP' hD' hS' => k _ H1 locs _ _ ls _ (mj_S_push hw ⟨g, _, rfl, (mj_K1 hK').1, (mj_K1 hK').2, rfl⟩ hp hl hr1 hn h1 h2 hlt hP' hD' hS'))
      · exact va_newa (D := D) (cl := vwCl) (tys := []) (atype := .byte) (ty := .byte) hx hb (hts _ mj_ac_byte) rfl hK hP hD hS hA (a0 := (n.toNatClampNeg, .inl fun _ => 0)) (fun _ => rfl) hn0 rfl (by simp only [componentBytes]; omega) hc1 hc2 hd (fun q g H1 hK' hP' hD' hS' => k _ H1 locs _ _ ls _ (mj_S_push hw ⟨g, _, rfl, (mj_K1 hK').1, (mj_K1 hK').2, rfl⟩ hp hl hr1 hn h1 h2 hlt hP' hD' hS'))
      · exact va_newa (D := D) (cl := vwCl) (tys := []) (atype := .boolean) (ty := .boolean) hx hb (hts _ mj_ac_boolean) rfl hK hP hD hS hA (a0 := (n.toNatClampNeg, .inl fun _ => 0)) (fun _ => rfl) hn0 rfl (by simp only [componentBytes]; omega) hc1 hc2 hd (fun q g H1 hK' hP' hD' hS' => k _ H1 locs _ _ ls _ (mj_S_push hw ⟨g, _, rfl, (mj_K1 hK').1, (mj_K1 hK').2, rfl⟩ hp hl hr1 hn h1 h2 hlt hP' hD' hS'))
      · exact va_newa (D := D) (cl := vwCl) (tys := []) (atype := .long) (ty := .long) hx hb (hts _ mj_ac_long) rfl hK hP hD hS hA (a0 := (n.toNatClampNeg, .inr (.inl fun _ => 0))) (fun _ => rfl) hn0 rfl (by simp only [componentBytes]; omega) hc1 hc2 hd (fun q g H1 hK' hP' hD' hS' => k _ H1 locs _ _ ls _ (mj_S_push hw ⟨g, _, rfl, (mj_K1 hK').1, (mj_K1 hK').2, rfl⟩ hp hl hr1 hn h1 h2 hlt hP' hD' hS'))
    · cases hs2
  · cases hs1
theorem mj_o_anewarray {ix : Nat} (C : mj_Cx p l R s m args meth c ct X D A M d) (hd : decode M.2.1 pc = .ok (.anewarray ix, len)) (hs : mj_step X M (.anewarray ix) len pc L st w = some (.inl r)) (hcap : r.2.2.2.2.1 ≤ c0 + R.cells ∧ r.2.2.2.2.2 ≤ s0 + R.slots) (k : mj_G p l e R s m args below meth c ct D A Q ads0 c0 s0 r.1 r.2.1 r.2.2.1 r.2.2.2) : mj_G p l e R s m args below meth c ct D A Q ads0 c0 s0 pc L st w := by
  obtain ⟨rfl, hs1⟩ := mj_ifn hs
  obtain ⟨hx, hb, hown, hts, hF, hA, hK, -⟩ := id C
  intro ws H locs cells slots ls rst ⟨hP, hD, hS, hw, hp, hl, hr, hn, h1, h2⟩
  unfold mj_anew at hs1
  split at hs1
  · next q0 q1 n tt hlk =>
    obtain ⟨hin, hs2⟩ := mj_ifm hs1
    have hn0 : ¬ n < 0 := fun z => hin (Or.inl z)
    have hbig : ¬ 1000000 < n.toNatClampNeg := fun z => hin (Or.inr z)
    have hlink := mj_pool_ok hlk
    obtain ⟨t1, rfl, hr1⟩ := mj_sr_int hr
    obtain ⟨hlt, rfl⟩ := mj_push_inv hs2
    dsimp only at hcap
    have hc1 : cells + 1 ≤ R.cells := by omega
    have hc2 : slots + n.toNatClampNeg ≤ R.slots := by omega
    exact va_newq (D := D) (cl := vwCl) (tys := []) (C := "java/lang/String") hx hb hown (hts _ hlink) hF.2.2.2.2.2.2.2.2.1 hK hP hD hS hA hn0 rfl (by omega) hc1 hc2 hd (fun q g H1 hK' hP' hD' hS' => k _ H1 locs _ _ ls _ (mj_S_push hw ⟨g, _, rfl, (mj_K1 hK').1, (mj_K1 hK').2, _, rfl, fun _ => rfl⟩ hp hl hr1 hn h1 h2 hlt hP' hD' hS'))
  · cases hs1
theorem mj_o_aastore (C : mj_Cx p l R s m args meth c ct X D A M d) (hd : decode M.2.1 pc = .ok (.aastore, len)) (hs : mj_step X M .aastore len pc L st w = some (.inl r)) (k : mj_G p l e R s m args below meth c ct D A Q ads0 c0 s0 r.1 r.2.1 r.2.2.1 r.2.2.2) : mj_G p l e R s m args below meth c ct D A Q ads0 c0 s0 pc L st w := by
  obtain ⟨rfl, hs1⟩ := mj_ifn hs
  obtain ⟨hx, hb, hown, hts, hF, hA, hK, -⟩ := id C
  intro ws H locs cells slots ls rst ⟨hP, hD, hS, hw, hp, hl, hr, hn, h1, h2⟩
  unfold mj_aast at hs1
  split at hs1
  · next v i q t =>
    obtain ⟨⟨hv1, hv2, hq⟩, hs2⟩ := mj_ifn hs1
    split at hs2
    · next n f hwq =>
      obtain ⟨hin, hs3⟩ := mj_ifm hs2
      cases mj_nx_inv hs3
      obtain ⟨rv, t0, rfl, ev, hr0⟩ := mj_sr_cons hr
      obtain ⟨t1, rfl, hr1⟩ := mj_sr_int hr0
      obtain ⟨rr, t2, rfl, e1, hr2⟩ := mj_sr_cons hr1
      obtain ⟨a, ee, rfl, hk, g, b, rfl, g1, g2, f', rfl, hb3⟩ := mj_wr_ref hw hwq hq e1
      obtain ⟨va, vb, rfl, -, ⟨cell, o1, o2, o3, o4⟩, -⟩ := mj_text hF hv1 hv2 ev
      have hlt : va < s.heap.size := (Array.getElem?_eq_some_iff.mp o1).1
      obtain ⟨kC, hkC, -⟩ := Vm.findClass_spec o3
      have hany : va_Any "java/lang/String" s H va := ⟨cell, by rw [hS.2.1 va hlt o4]; exact o1, o2, ⟨kC, hkC⟩, fun comp h => by rw [o3] at h; cases h; exact va_asg _ _⟩
      refine va_astqM hx hb (mj_Kt hK g1 g2) hP hD hS q 0 hk rfl hany hin hd (fun H1 locs1 hP' hD' hS' => k _ H1 locs1 cells slots ls _ (mj_S_set hk hw ⟨g, _, rfl, g1, g2, _, rfl, fun j => ?_⟩ hp hl hr2 hn h1 h2 hP' hD' hS'))
      by_cases hj : j = i.toNatClampNeg
      · subst hj
        simp only [va_up, if_true]
        exact ev
      · simp only [va_up, if_neg hj]
        exact hb3 j
    · cases hs2
  · cases hs1
theorem mj_o_new {ix : Nat} (C : mj_Cx p l R s m args meth c ct X D A M d) (hd : decode M.2.1 pc = .ok (.new ix, len)) (hs : mj_step X M (.new ix) len pc L st w = some (.inl r)) (hcap : r.2.2.2.2.1 ≤ c0 + R.cells ∧ r.2.2.2.2.2 ≤ s0 + R.slots) (k : mj_G p l e R s m args below meth c ct D A Q ads0 c0 s0 r.1 r.2.1 r.2.2.1 r.2.2.2) : mj_G p l e R s m args below meth c ct D A Q ads0 c0 s0 pc L st w := by
  obtain ⟨rfl, hs1⟩ := mj_ifn hs
  obtain ⟨hx, hb, hown, hts, hF, hA, hK, -⟩ := id C
  intro ws H locs cells slots ls rst ⟨hP, hD, hS, hw, hp, hl, hr, hn, h1, h2⟩
  unfold mj_new at hs1
  split at hs1
  · next ci q1 hlk =>
    obtain ⟨hci, hs2⟩ := mj_ifn hs1
    obtain ⟨-, hlink⟩ := mj_pool_ok hlk
    obtain ⟨hlt, rfl⟩ := mj_push_inv hs2
    dsimp only at hcap
    have hc1 : cells + 1 ≤ R.cells := by omega
    have hc2 : slots + mj_N ci ≤ R.slots := by omega
    refine va_new (D := D) (cl := vwCl) (tys := []) (ci := ci) (fs := mj_def ci) (C := mj_cls ci) (T := mj_T ci) (N := mj_N ci) hx hb hts (mj_fl hci) (mj_ty ci) (mj_tyok hci) hown (hts _ hlink) (hts _ (mj_inst hci).1) (hts _ (mj_inst hci).2) hK hP hD hS hA (mj_vw hci) (mj_defok hci) hc1 hc2 hd (fun q H1 hP' hD' hS' => k _ H1 locs _ _ ls _ (mj_S_push hw ⟨mj_def ci, rfl, ?_⟩ hp hl hr hn h1 h2 hlt hP' hD' hS'))
    match ci, hci with
    | 0, _ => rfl
    | 1, _ => rfl
    | 2, _ => rfl
    | 3, _ => rfl
    | 4, _ => rfl
    | 5, _ => rfl
    | 6, _ => rfl
    | 7, _ => rfl
    | 8, _ => rfl
    | 9, _ => rfl
    | ci + 10, h => omega
  · obtain ⟨-, hs2⟩ := mj_ifn hs1
    cases hs2
  · cases hs1
theorem mj_o_getstatic {ix : Nat} (C : mj_Cx p l R s m args meth c ct X D A M d) (hd : decode M.2.1 pc = .ok (.getstatic ix, len)) (hs : mj_step X M (.getstatic ix) len pc L st w = some (.inl r)) (k : mj_G p l e R s m args below meth c ct D A Q ads0 c0 s0 r.1 r.2.1 r.2.2.1 r.2.2.2) : mj_G p l e R s m args below meth c ct D A Q ads0 c0 s0 pc L st w := by
  obtain ⟨rfl, hs1⟩ := mj_ifn hs
  obtain ⟨hx, hb, hown, hts, hF, hA, hK, -⟩ := id C
  intro ws H locs cells slots ls rst ⟨hP, hD, hS, hw, hp, hl, hr, hn, h1, h2⟩
  unfold mj_gets at hs1
  split at hs1
  · next b hlk =>
    cases mj_nx_inv hs1
    obtain ⟨hb3, hlink⟩ := mj_pool_ok hlk
    obtain ⟨v, e1, e2⟩ := hF.2.2.2.2.1 b hb3
    exact va_gets hx hb e2 hS hown (hts _ hlink) (fun _ h => h) hd (k ws H locs cells slots ls _ ⟨hP, hD, hS, hw, hp, hl, mj_sr_mk (by simp only [mj_rv, if_neg (Nat.not_lt.mpr (Nat.le_add_right 1000000 b))]; exact e1) hr, hn, h1, h2⟩)
  · next b hlk =>
    cases mj_nx_inv hs1
    obtain ⟨hb3, hlink⟩ := mj_pool_ok hlk
    obtain ⟨v, e1, e2⟩ := hF.2.2.2.2.1 b (hb3.elim Or.inl (fun z => Or.inr (Or.inl z)))
    exact va_getsN hx hb e2 hS hown (va_Nw.use rfl (hF.2.1 _ hlink)) (fun _ h => h) hd (k ws H locs cells slots ls _ ⟨hP, hD, hS, hw, hp, hl, mj_sr_mk (by simp only [mj_rv, if_neg (Nat.not_lt.mpr (Nat.le_add_right 1000000 b))]; exact e1) hr, hn, h1, h2⟩)
  · next b hlk =>
    cases mj_nx_inv hs1
    obtain ⟨rfl, hlink⟩ := mj_pool_ok hlk
    exact va_gets hx hb hF.2.2.2.2.2.1 hS hown (hts _ hlink) (fun _ h => h) hd (k ws H locs cells slots ls _ ⟨hP, hD, hS, hw, hp, hl, mj_sr_mki hr, hn, h1, h2⟩)
  · cases hs1
theorem mj_ldc_inv {lk : Option (Nat × Nat × Nat)} (h : mj_ldc lk pc L st w = some (.inl r)) : (∃ a q, lk = some (5, a, q) ∧ r = (pc, L, .int (Int32.ofNat a) :: st, w)) ∨ ∃ a q, lk = some (7, a, q) ∧ r = (pc, L, .ref (1000100 + a) :: st, w) := by
  unfold mj_ldc at h
  split at h
  · exact Or.inl ⟨_, _, rfl, mj_nx_inv h⟩
  · exact Or.inr ⟨_, _, rfl, mj_nx_inv h⟩
  · cases h
theorem mj_ct_str (a : Nat) : ¬ 1000100 + a < 1000000 := Nat.not_lt.mpr (Nat.le_trans (by decide) (Nat.le_add_right 1000100 a))
theorem mj_ldcSW {H : Heap} {locs : List Loc} {cells slots : Nat} {ls : Array Slot} {rest : List Value} {cc : ByteArray} (hexec : p.tables.exec = Jvm.exec) (hb : c.code = cc) {own tx : String} {index q : Nat} (hown : s.vm.findClass own = some m.cls) (hZ : vk_R own index tx q s) (hdg : decode cc pc = .ok (.ldc_w index, 3))
    (k : W p l e R s m args below meth c H locs cells slots Q (F0 m (pc + 3) ls (.ref q :: rest))) : W p l e R s m args below meth c H locs cells slots Q (F0 m pc ls rest) := by
  intro T hT Y
  obtain ⟨t, a1, b1⟩ := k T hT Y
  exact ⟨t, Y.ldcStringW hexec hown (text := tx) (a := q) hZ.1 hZ.2 (g := F0 m pc ls rest) rfl (by rw [hb]; exact hdg) t a1, b1⟩
theorem mj_o_ldc {ix : Nat} (C : mj_Cx p l R s m args meth c ct X D A M d) (hd : decode M.2.1 pc = .ok (.ldc ix, len)) (hs : mj_step X M (.ldc ix) len pc L st w = some (.inl r)) (k : mj_G p l e R s m args below meth c ct D A Q ads0 c0 s0 r.1 r.2.1 r.2.2.1 r.2.2.2) : mj_G p l e R s m args below meth c ct D A Q ads0 c0 s0 pc L st w := by
  obtain ⟨rfl, hs1⟩ := mj_ifn hs
  obtain ⟨hx, hb, hown, hts, hF, hA, hK, -⟩ := id C
  intro ws H locs cells slots ls rst ⟨hP, hD, hS, hw, hp, hl, hr, hn, h1, h2⟩
  rcases mj_ldc_inv hs1 with ⟨a, q, hlk, rfl⟩ | ⟨a, q, hlk, rfl⟩
  · have hlink := mj_pool_ok hlk
    exact lv_ldc hx hb hown (hts _ hlink) hd (k ws H locs cells slots ls _ ⟨hP, hD, hS, hw, hp, hl, mj_sr_mki hr, hn, h1, h2⟩)
  · obtain ⟨ha, tx, htx⟩ := mj_pool_ok hlk
    obtain ⟨ad, e1, e2⟩ := hF.2.2.2.2.2.2.2.1 a _ _ tx htx
    exact va_ldcS hx hb hown e2 hd (k ws H locs cells slots ls _ ⟨hP, hD, hS, hw, hp, hl, mj_sr_mk (by simp only [mj_rv, if_neg (mj_ct_str a)]; exact e1) hr, hn, h1, h2⟩)
theorem mj_o_ldc_w {ix : Nat} (C : mj_Cx p l R s m args meth c ct X D A M d) (hd : decode M.2.1 pc = .ok (.ldc_w ix, len)) (hs : mj_step X M (.ldc_w ix) len pc L st w = some (.inl r)) (k : mj_G p l e R s m args below meth c ct D A Q ads0 c0 s0 r.1 r.2.1 r.2.2.1 r.2.2.2) : mj_G p l e R s m args below meth c ct D A Q ads0 c0 s0 pc L st w := by
  obtain ⟨rfl, hs1⟩ := mj_ifn hs
  obtain ⟨hx, hb, hown, hts, hF, hA, hK, -⟩ := id C
  intro ws H locs cells slots ls rst ⟨hP, hD, hS, hw, hp, hl, hr, hn, h1, h2⟩
  rcases mj_ldc_inv hs1 with ⟨a, q, hlk, rfl⟩ | ⟨a, q, hlk, rfl⟩
  · have hlink := mj_pool_ok hlk
    exact lv_ldcw hx hb hown (hts _ hlink) hd (k ws H locs cells slots ls _ ⟨hP, hD, hS, hw, hp, hl, mj_sr_mki hr, hn, h1, h2⟩)
  · obtain ⟨ha, tx, htx⟩ := mj_pool_ok hlk
    obtain ⟨ad, e1, e2⟩ := hF.2.2.2.2.2.2.2.1 a _ _ tx htx
    exact mj_ldcSW hx hb hown e2 hd (k ws H locs cells slots ls _ ⟨hP, hD, hS, hw, hp, hl, mj_sr_mk (by simp only [mj_rv, if_neg (mj_ct_str a)]; exact e1) hr, hn, h1, h2⟩)
theorem mj_o_ldc2_w {ix : Nat} (C : mj_Cx p l R s m args meth c ct X D A M d) (hd : decode M.2.1 pc = .ok (.ldc2_w ix, len)) (hs : mj_step X M (.ldc2_w ix) len pc L st w = some (.inl r)) (k : mj_G p l e R s m args below meth c ct D A Q ads0 c0 s0 r.1 r.2.1 r.2.2.1 r.2.2.2) : mj_G p l e R s m args below meth c ct D A Q ads0 c0 s0 pc L st w := by
  obtain ⟨rfl, hs1⟩ := mj_ifn hs
  obtain ⟨hx, hb, hown, hts, hF, hA, hK, -⟩ := id C
  intro ws H locs cells slots ls rst ⟨hP, hD, hS, hw, hp, hl, hr, hn, h1, h2⟩
  unfold mj_ldc2 at hs1
  split at hs1
  · next a q hlk =>
    cases mj_nx_inv hs1
    have hlink := mj_pool_ok hlk
    exact lv_ldc2 hx hb hown (hts _ hlink) hd (k ws H locs cells slots ls _ ⟨hP, hD, hS, hw, hp, hl, mj_sr_mkl hr, hn, h1, h2⟩)
  · cases hs1
theorem mj_nfw : nativeFrameWords "java/lang/System" "arraycopy" 5 ≤ 200 := by decide
theorem mj_sum_cat (hc : mj_okct ct) {ads : List Nat} {st rst : List Value} (h : mj_sr ct ads st rst) : (rst.map fun v => v.category).sum = (st.map fun v => v.category).sum := by rw [mj_sr_cat hc h]
theorem mj_o_invokespecial {ix : Nat} (C : mj_Cx p l R s m args meth c ct X D A M d) (hd : decode M.2.1 pc = .ok (.invokespecial ix, len)) (hs : mj_step X M (.invokespecial ix) len pc L st w = some (.inl r)) (k : mj_G p l e R s m args below meth c ct D A Q ads0 c0 s0 r.1 r.2.1 r.2.2.1 r.2.2.2) : mj_G p l e R s m args below meth c ct D A Q ads0 c0 s0 pc L st w := by
  obtain ⟨rfl, hs1⟩ := mj_ifn hs
  obtain ⟨hx, hb, hown, hts, hF, hA, hK, -, -, -, -, -, ⟨hRf, hRl⟩, hml⟩ := id C
  intro ws H locs cells slots ls rst ⟨hP, hD, hS, hw, hp, hl, hr, hn, h1, h2⟩
  have noinv : ∀ z, mj_inv true z st w ≠ some (.inl r) := by
    intro z h
    unfold mj_inv at h
    split at h
    · cases h
    · obtain ⟨-, h3⟩ := mj_ifn h
      rw [if_pos rfl] at h3
      split at h3
      · obtain ⟨-, h4⟩ := mj_ifn h3
        cases h4
      · cases h3
  unfold mj_invi at hs1
  split at hs1
  · next q0 q1 q t hlk =>
    obtain ⟨⟨hq, hcat⟩, hs2⟩ := mj_ifn hs1
    cases mj_nx_inv hs2
    have hlink := mj_pool_ok hlk
    obtain ⟨rr, t2, rfl, e1, hr2⟩ := mj_sr_cons hr
    obtain ⟨a, rfl⟩ := mj_rv_ref hF.1 e1 (Nat.ne_of_lt (Nat.lt_of_lt_of_le hq (by decide)))
    have hsz : ls.size = c.maxLocals := by
      obtain ⟨lv, l1, -⟩ := hl
      rw [l1.1, hn]
    have hcat2 := mj_sum_cat hF.1 hr2
    exact W.objInit hx hb hown (hts _ hlink) (hts _ mj_oi.1) (hts _ mj_oi.2) (g := F0 m pc ls (.ref a :: t2)) rfl hsz rfl hd (by omega) (by show 2 * 0 + _ + 12 ≤ _; rw [hcat2]; omega) (k ws H locs cells slots ls _ ⟨hP, hD, hS, hw, hp, hl, hr2, hn, h1, h2⟩)
  · split at hs1
    · obtain ⟨-, hs2⟩ := mj_ifn hs1
      exact absurd hs2 (noinv _)
    · cases hs1
  · split at hs1
    · obtain ⟨-, hs2⟩ := mj_ifn hs1
      exact absurd hs2 (noinv _)
    · cases hs1
  · cases hs1
theorem mj_o_invokestatic {ix : Nat} (C : mj_Cx p l R s m args meth c ct X D A M d) (hd : decode M.2.1 pc = .ok (.invokestatic ix, len)) (hs : mj_step X M (.invokestatic ix) len pc L st w = some (.inl r)) (hcap : r.2.2.2.2.1 ≤ c0 + R.cells ∧ r.2.2.2.2.2 ≤ s0 + R.slots) (k : mj_G p l e R s m args below meth c ct D A Q ads0 c0 s0 r.1 r.2.1 r.2.2.1 r.2.2.2) : mj_G p l e R s m args below meth c ct D A Q ads0 c0 s0 pc L st w := by
  obtain ⟨rfl, hs1⟩ := mj_ifn hs
  obtain ⟨hx, hb, hown, hts, hF, hA, hK, -, -, -, -, -, ⟨hRf, hRl⟩, hml⟩ := id C
  intro ws H locs cells slots ls rst ⟨hP, hD, hS, hw, hp, hl, hr, hn, h1, h2⟩
  have hsz : c.maxLocals = ls.size := by
    obtain ⟨lv, l1, -⟩ := hl
    rw [l1.1, hn]
  have noinv : ∀ z, mj_inv false z st w ≠ some (.inl r) := by
    intro z h
    unfold mj_inv at h
    split at h
    · cases h
    · obtain ⟨-, h3⟩ := mj_ifn h
      rw [if_neg (by decide)] at h3
      cases h3
  unfold mj_invs at hs1
  split at hs1
  · next q0 q1 hlk =>
    have hlink := mj_pool_ok hlk
    unfold mj_copy at hs1
    split at hs1
    · next n dp dd sp ss t =>
      obtain ⟨⟨hss, hdd, hcat, hsp, hdp, hnn⟩, hs2⟩ := mj_ifn hs1
      obtain ⟨t0, rfl, hr0⟩ := mj_sr_int hr
      obtain ⟨t1, rfl, hr1⟩ := mj_sr_int hr0
      obtain ⟨rd, t2, rfl, ed, hr2⟩ := mj_sr_cons hr1
      obtain ⟨t3, rfl, hr3⟩ := mj_sr_int hr2
      obtain ⟨rs, t4, rfl, es, hr4⟩ := mj_sr_cons hr3
      have hcat2 := mj_sum_cat hF.1 hr4
      split at hs2
      · next n0 f n1 g hw0 hw1 =>
        obtain ⟨⟨h4, h5⟩, hs3⟩ := mj_ifn hs2
        cases mj_nx_inv hs3
        obtain ⟨a, ee, rfl, hk, gg, b, rfl, g1, g2, hb2⟩ := mj_wr_ref hw hw1 hdd ed
        cases hb2
        obtain ⟨a0, ee0, rfl, hk0, gg0, b0, rfl, g10, g20, hb20⟩ := mj_wr_ref hw hw0 hss es
        cases hb20
        exact va_copyi hx hb hsz hown (hts _ hlink) (hts _ mj_ac.1) (hts _ mj_ac.2.1) (hts _ mj_ac.2.2) ((mj_Kt hK g10 g20).app (mj_Kt hK g1 g2)) hP hD hS ss dd 0 1 hk0 hk rfl rfl rfl hsp hdp hnn h4 h5 (fun _ _ => rfl) (by omega) (by rw [hcat2]; have := mj_nfw; omega) hd
          (fun H1 locs1 hP' hD' hS' => k _ H1 locs1 cells slots ls _ (mj_S_set hk hw ⟨gg, _, rfl, g1, g2, rfl⟩ hp hl hr4 hn h1 h2 hP' hD' hS'))
      · next n0 f n1 g hw0 hw1 =>
        obtain ⟨⟨h4, h5, h6⟩, hs3⟩ := mj_ifn hs2
        cases mj_nx_inv hs3
        obtain ⟨a, ee, rfl, hk, gg, b, rfl, g1, g2, hb2⟩ := mj_wr_ref hw hw1 hdd ed
        cases hb2
        obtain ⟨a0, ee0, rfl, hk0, gg0, b0, rfl, g10, g20, hb20⟩ := mj_wr_ref hw hw0 hss es
        cases hb20
        exact va_copyi hx hb hsz hown (hts _ hlink) (hts _ mj_ac.1) (hts _ mj_ac.2.1) (hts _ mj_ac.2.2) ((mj_Kt hK g10 g20).app (mj_Kt hK g1 g2)) hP hD hS ss dd 0 1 hk0 hk rfl rfl rfl hsp hdp hnn h4 h5 (fun i hi => (List.all_eq_true.mp h6) i (List.mem_range.mpr hi)) (by omega) (by rw [hcat2]; have := mj_nfw; omega) hd
          (fun H1 locs1 hP' hD' hS' => k _ H1 locs1 cells slots ls _ (mj_S_set hk hw ⟨gg, _, rfl, g1, g2, rfl⟩ hp hl hr4 hn h1 h2 hP' hD' hS'))
      · cases hs2
    · cases hs1
  · next a q1 hlk =>
    obtain ⟨ha, hlink⟩ := mj_pool_ok hlk
    unfold mj_math at hs1
    split at hs1
    · obtain ⟨hcat, hs2⟩ := mj_ifn hs1
      cases mj_nx_inv hs2
      dsimp only at hcap
      obtain ⟨t0, rfl, hr0⟩ := mj_sr_int hr
      obtain ⟨t1, rfl, hr1⟩ := mj_sr_int hr0
      have hcat2 := mj_sum_cat hF.1 hr1
      exact va_mmin hx hb hsz hown (hts _ hlink) (hts _ mj_math0.1) (hts _ mj_math0.2.1) (hts _ mj_math0.2.2) (by omega) (by rw [hcat2]; omega) (by omega) (by omega) hd (k ws H locs cells slots ls _ ⟨hP, hD, hS, hw, hp, hl, mj_sr_mki hr1, hn, h1, h2⟩)
    · obtain ⟨hcat, hs2⟩ := mj_ifn hs1
      cases mj_nx_inv hs2
      dsimp only at hcap
      obtain ⟨t0, rfl, hr0⟩ := mj_sr_int hr
      obtain ⟨t1, rfl, hr1⟩ := mj_sr_int hr0
      have hcat2 := mj_sum_cat hF.1 hr1
      exact va_mmax hx hb hsz hown (hts _ hlink) (hts _ mj_math1.1) (hts _ mj_math1.2.1) (hts _ mj_math1.2.2) (by omega) (by rw [hcat2]; omega) (by omega) (by omega) hd (k ws H locs cells slots ls _ ⟨hP, hD, hS, hw, hp, hl, mj_sr_mki hr1, hn, h1, h2⟩)
    · obtain ⟨hcat, hs2⟩ := mj_ifn hs1
      cases mj_nx_inv hs2
      dsimp only at hcap
      obtain ⟨t0, rfl, hr0⟩ := mj_sr_int hr
      have hcat2 := mj_sum_cat hF.1 hr0
      exact va_mabs hx hb hsz hown (hts _ hlink) (hts _ mj_math2.1) (hts _ mj_math2.2.1) (hts _ mj_math2.2.2) (by omega) (by rw [hcat2]; omega) (by omega) (by omega) hd (k ws H locs cells slots ls _ ⟨hP, hD, hS, hw, hp, hl, mj_sr_mki hr0, hn, h1, h2⟩)
    · cases hs1
  · exact absurd hs1 (noinv _)
  · split at hs1
    · obtain ⟨-, hs2⟩ := mj_ifn hs1
      exact absurd hs2 (noinv _)
    · cases hs1
  · cases hs1
end MJN
