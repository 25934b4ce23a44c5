/-! THE SMALL MACHINE IS SOUND: what it runs to, the machine runs to -/
theorem mj_thr_inv {M : mj_M} {pc e : Nat} (h : mj_thr M pc e = true) : decode M.2.1 (pc + 3) = .ok (.dup, 1) ∧
    ((∃ is ic a b, decode M.2.1 (pc + 4) = .ok (.ldc is, 2) ∧ mj_pool M.2.2.2.2.2.1 is = some (7, a, b) ∧ decode M.2.1 (pc + 6) = .ok (.invokespecial ic, 3) ∧ decode M.2.1 (pc + 9) = .ok (.athrow, 1) ∧ mj_pool M.2.2.2.2.2.1 ic = some (14, e, 0)) ∨
     (∃ is ic a b, decode M.2.1 (pc + 4) = .ok (.ldc_w is, 3) ∧ mj_pool M.2.2.2.2.2.1 is = some (7, a, b) ∧ decode M.2.1 (pc + 7) = .ok (.invokespecial ic, 3) ∧ decode M.2.1 (pc + 10) = .ok (.athrow, 1) ∧ mj_pool M.2.2.2.2.2.1 ic = some (14, e, 0))) := by
  unfold mj_thr at h
  split at h
  · next is h3 h4 =>
    split at h
    · next a b ic hp h6 h9 => exact ⟨h3, Or.inl ⟨is, ic, a, b, h4, hp, h6, h9, by simpa using h⟩⟩
    · cases h
  · next is h3 h4 =>
    split at h
    · next a b ic hp h6 h9 => exact ⟨h3, Or.inr ⟨is, ic, a, b, h4, hp, h6, h9, by simpa using h⟩⟩
    · cases h
  · cases h
section MJSO
variable {p : Program} {l : Launch} {e : Env} {R : Room} {s : State} {m : MethodId} {args : Array Value} {below : List Frame} {meth : Method} {c : Code} {ct : Nat → Option Value} {X : mj_X} {D : va_G} {A : Nat → Prop} {Q : State → Prop} {ads0 : List Nat} {c0 s0 d len pc mc ms : Nat} {M : mj_M} {L : mj_L} {st : List Value} {w wf : mj_W} {out : mj_O}
theorem mj_e_new {ix : Nat} (C : mj_Cx p l R s m args meth c ct X D A M d) (hd : decode M.2.1 pc = .ok (.new ix, len)) (hs : mj_step X M (.new ix) len pc L st w = some (.inr (.inl (out, wf)))) (h3 : wf.2.1 = c0 + mc) (h4 : wf.2.2 = s0 + ms) (hcap : mc ≤ R.cells ∧ ms ≤ R.slots) : mj_G p l e R s m args below meth c ct D A (vx_MQ below (mj_Qc ct D A ads0 out wf) (mj_XC ct D A ads0 out wf) args s mc ms A) ads0 c0 s0 pc L st w := by
  obtain ⟨rfl, hs1⟩ := mj_ifn hs
  obtain ⟨hx, hb, hown, hts, hF, hA, hK, hret, hlocks, htab, hst, hinit, ⟨hRf, hRl⟩, hml⟩ := id C
  intro ws H locs cells slots ls rst ⟨hP, hD, hS, hw, hp, hl, hr, hn, h1, h2⟩
  unfold mj_new at hs1
  split at hs1
  · obtain ⟨-, hs2⟩ := mj_ifn hs1
    unfold mj_push at hs2
    obtain ⟨-, hs3⟩ := mj_ifn hs2
    cases hs3
  · next en q hlk =>
    obtain ⟨⟨hthr, hhh, hcat⟩, hs2⟩ := mj_ifn hs1
    cases hs2
    dsimp only at h3 h4
    have hm1 : mc = cells + 1 := by omega
    have hm2 : ms = slots + 6 := by omega
    obtain ⟨hen, hclink⟩ := mj_pool_ok hlk
    obtain ⟨d3, hh⟩ := mj_thr_inv hthr
    have hsz : ls.size = c.maxLocals := by
      obtain ⟨lv, l1, -⟩ := hl
      rw [l1.1, hn]
    have hcat2 := mj_sum_cat hF.1 hr
    have hXC : ∀ t : State, s.vm.Alike t.vm → H.size ≤ t.heap.size → (∀ q : Nat, q < H.size → t.heap[q]? = H[q]?) → mj_XC ct D A ads0 (.inr en) (w.1, w.2.1 + 1, w.2.2 + 6) (mj_exn en) s t := fun t hal hsz2 hkeep =>
      ⟨⟨en, ws, rfl, hen, rfl, hP.kept (fun k q hk => hkeep q.1 (hP k q hk).lt), hD, mj_wr_moved hal hw, hp⟩, Nat.le_trans hS.1 hsz2, fun q h5 h6 => (hkeep q (Nat.lt_of_lt_of_le h5 hS.1)).trans (hS.2.1 q h5 h6)⟩
    have hnoex : ∀ pc', ∀ x ∈ c.exceptionTable.toList, covers x pc' = false := by
      intro pc' x hx9
      rw [htab, hhh] at hx9
      cases hx9
    have hl3 : (mj_xnm).length + 3 < R.frames := by
      have : (mj_xnm).length = 2 := rfl
      omega
    have hl4 : (rst.map fun v => v.category).sum + (13 * ((mj_xnm).length + 1) + 43) ≤ R.locals := by
      have : (mj_xnm).length = 2 := rfl
      omega
    have hwb := mj_xb en hen hts hF.2.1
    have hall : ∀ is ic a b, mj_pool M.2.2.2.2.2.1 is = some (7, a, b) → mj_pool M.2.2.2.2.2.1 ic = some (14, en, 0) → M.2.2.2.2.2.1 = 8 ∧ ic = (if en = 0 then 158 else 84) ∧ ∃ tx ad, vk_R (mj_cls M.2.2.2.2.2.1) is tx ad s := by
      intro is ic a b hq7 hq14
      obtain ⟨-, h8, hic⟩ := mj_pool_ok hq14
      obtain ⟨ha, tx, htx⟩ := mj_pool_ok hq7
      obtain ⟨ad, -, e2⟩ := hF.2.2.2.2.2.2.2.1 a _ _ tx htx
      exact ⟨h8, hic, tx, ad, e2⟩
    have hgood : ∀ w ∈ Cond.classLink "WivesQuarrels" ix (mj_exn en) :: Cond.initialized (mj_exn en) :: mj_xw en, vx_ot w = true := by
      intro w hw9
      rcases List.mem_cons.mp hw9 with rfl | hw9
      · rfl
      · rcases List.mem_cons.mp hw9 with rfl | hw9
        · rfl
        · match en, hen, hw9 with
          | 0, _, hw9 => exact mj_x0o w hw9
          | 1, _, hw9 => exact mj_x1o w hw9
          | en + 2, h, _ => omega
    subst hm1; subst hm2
    rcases hh with ⟨is, ic, a, b, d4, hq7, d6, d9, hq14⟩ | ⟨is, ic, a, b, d4, hq7, d7, d10, hq14⟩
    · obtain ⟨h8, hic, tx, ad, hR9⟩ := hall is ic a b hq7 hq14
      rw [h8] at hown hclink hR9
      match en, hen, hXC, hgood, hwb, hic, hclink with
      | 0, _, hXC, hgood, hwb, hic, hclink =>
        subst hic
        exact mj_throwX (cls := mj_exn 0) (names := mj_xnm) (ic := 158) (ix := 13) (rx := prog_31_method_4_code) (A := A) hx hb hst mj_xc0.1 mj_xc0.2.1 mj_xc0.2.2.1 mj_xc0.2.2.2 hown mj_xfit.2.1 mj_xfit.1 (hts _ hclink) (hts _ mj_xini.1) hR9 hwb hgood hF.2.2.1.1 hF.2.2.1.2 hS hsz hd d3 d4 d6 d9 (hnoex _) hl3 hl4 hcap.1 hcap.2 hlocks hXC hS.2.2 (Nat.le_refl _) (Nat.le_refl _)
      | 1, _, hXC, hgood, hwb, hic, hclink =>
        subst hic
        exact mj_throwX (cls := mj_exn 1) (names := mj_xnm) (ic := 84) (ix := 7) (rx := prog_18_method_2_code) (A := A) hx hb hst mj_xc1.1 mj_xc1.2.1 mj_xc1.2.2.1 mj_xc1.2.2.2 hown mj_xfit.2.2 mj_xfit.1 (hts _ hclink) (hts _ mj_xini.2) hR9 hwb hgood hF.2.2.1.1 hF.2.2.1.2 hS hsz hd d3 d4 d6 d9 (hnoex _) hl3 hl4 hcap.1 hcap.2 hlocks hXC hS.2.2 (Nat.le_refl _) (Nat.le_refl _)
      | en + 2, h, _, _, _, _, _ => omega
    · obtain ⟨h8, hic, tx, ad, hR9⟩ := hall is ic a b hq7 hq14
      rw [h8] at hown hclink hR9
      match en, hen, hXC, hgood, hwb, hic, hclink with
      | 0, _, hXC, hgood, hwb, hic, hclink =>
        subst hic
        exact mj_throwXW (cls := mj_exn 0) (names := mj_xnm) (ic := 158) (ix := 13) (rx := prog_31_method_4_code) (A := A) hx hb hst mj_xc0.1 mj_xc0.2.1 mj_xc0.2.2.1 mj_xc0.2.2.2 hown mj_xfit.2.1 mj_xfit.1 (hts _ hclink) (hts _ mj_xini.1) hR9 hwb hgood hF.2.2.1.1 hF.2.2.1.2 hS hsz hd d3 d4 d7 d10 (hnoex _) hl3 hl4 hcap.1 hcap.2 hlocks hXC hS.2.2 (Nat.le_refl _) (Nat.le_refl _)
      | 1, _, hXC, hgood, hwb, hic, hclink =>
        subst hic
        exact mj_throwXW (cls := mj_exn 1) (names := mj_xnm) (ic := 84) (ix := 7) (rx := prog_18_method_2_code) (A := A) hx hb hst mj_xc1.1 mj_xc1.2.1 mj_xc1.2.2.1 mj_xc1.2.2.2 hown mj_xfit.2.2 mj_xfit.1 (hts _ hclink) (hts _ mj_xini.2) hR9 hwb hgood hF.2.2.1.1 hF.2.2.1.2 hS hsz hd d3 d4 d7 d10 (hnoex _) hl3 hl4 hcap.1 hcap.2 hlocks hXC hS.2.2 (Nat.le_refl _) (Nat.le_refl _)
      | en + 2, h, _, _, _, _, _ => omega
  · cases hs1
end MJSO
