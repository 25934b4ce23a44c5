/-! how a method of the small machine ends -/
def mj_Qc (ct : Nat → Option Value) (D : va_G) (A : Nat → Prop) (ads0 : List Nat) (out : mj_O) (wf : mj_W) : Array Value → State → Outcome → State → Prop := fun _ st o t =>
  (∃ (v rv : Option Value) (ws : va_W), out = .inl v ∧ o = .returned rv ∧ mj_sr ct (ws.map Prod.fst) v.toList rv.toList ∧ va_P D vwCl ws t.heap ∧ va_D A ws ∧ mj_wr ct wf.1 ws t ∧ mj_pre ads0 (ws.map Prod.fst)) ∧ va_F A st t
def mj_XC (ct : Nat → Option Value) (D : va_G) (A : Nat → Prop) (ads0 : List Nat) (out : mj_O) (wf : mj_W) : String → State → State → Prop := fun E st t =>
  (∃ (e : Nat) (ws : va_W), out = .inr e ∧ e < 2 ∧ E = mj_exn e ∧ va_P D vwCl ws t.heap ∧ va_D A ws ∧ mj_wr ct wf.1 ws t ∧ mj_pre ads0 (ws.map Prod.fst)) ∧ va_F A st t
section MJE
variable {p : Program} {l : Launch} {e : Env} {R : Room} {s : State} {m : MethodId} {args : Array Value} {below : List Frame} {meth : Method} {c : Code} {ct : Nat → Option Value} {X : mj_X} {D : va_G} {A : Nat → Prop} {ads0 : List Nat} {c0 s0 d len pc mc ms : Nat} {M : mj_M} {L : mj_L} {st : List Value} {w wf : mj_W} {out : mj_O}
theorem mj_rfit_ok {ret : Option FieldType} {x : Int32} (h : mj_rfit ret x = true) : ∃ ty, ret = some ty ∧ narrow ty (.int x) = .int x := by
  unfold mj_rfit at h
  split at h
  · exact ⟨_, rfl, rfl⟩
  · simp only [Bool.or_eq_true, beq_iff_eq] at h
    rcases h with rfl | rfl <;> exact ⟨_, rfl, by decide⟩
  · exact ⟨_, rfl, by simpa using h⟩
  · exact ⟨_, rfl, by simpa using h⟩
  · cases h
theorem mj_e_ireturn (C : mj_Cx p l R s m args meth c ct X D A M d) (hd : decode M.2.1 pc = .ok (.ireturn, len)) (hs : mj_step X M .ireturn len pc L st w = some (.inr (.inl (out, wf)))) (h3 : wf.2.1 = c0 + mc) (h4 : wf.2.2 = s0 + ms) : mj_G p l e R s m args below meth c ct D A (vx_MQ below (mj_Qc ct D A ads0 out wf) (mj_XC ct D A ads0 out wf) args s mc ms A) ads0 c0 s0 pc L st w := by
  obtain ⟨rfl, hs1⟩ := mj_ifn hs
  obtain ⟨hx, hb, hown, hts, hF, hA, hK, hret, hlocks, -⟩ := id C
  intro ws H locs cells slots ls rst ⟨hP, hD, hS, hw, hp, hl, hr, hn, h1, h2⟩
  unfold mj_iret at hs1
  split at hs1
  · next x =>
    obtain ⟨hfit, hs2⟩ := mj_ifn hs1
    cases hs2
    obtain ⟨ty, hty, hnar⟩ := mj_rfit_ok hfit
    obtain ⟨t1, rfl, hr1⟩ := mj_sr_int hr
    have ht1 := mj_sr_nil hr1
    subst ht1
    have hmc : mc = cells := by omega
    have hms : ms = slots := by omega
    subst hmc; subst hms
    exact vx_ret (W.zret (ty := ty) hx hb (by rw [hret]; exact hty) hnar (fun t ht hW => ⟨⟨_, _, ws, rfl, rfl, mj_sr_mki rfl, by rw [ht]; exact hP, hD, mj_wr_moved hW.alike hw, hp⟩, hS.F ht⟩) hS.2.2 hd hlocks)
  · cases hs1
theorem mj_e_areturn (C : mj_Cx p l R s m args meth c ct X D A M d) (hd : decode M.2.1 pc = .ok (.areturn, len)) (hs : mj_step X M .areturn len pc L st w = some (.inr (.inl (out, wf)))) (h3 : wf.2.1 = c0 + mc) (h4 : wf.2.2 = s0 + ms) : mj_G p l e R s m args below meth c ct D A (vx_MQ below (mj_Qc ct D A ads0 out wf) (mj_XC ct D A ads0 out wf) args s mc ms A) ads0 c0 s0 pc L st w := by
  obtain ⟨rfl, hs1⟩ := mj_ifn hs
  obtain ⟨hx, hb, hown, hts, hF, hA, hK, hret, hlocks, -⟩ := id C
  intro ws H locs cells slots ls rst ⟨hP, hD, hS, hw, hp, hl, hr, hn, h1, h2⟩
  unfold mj_aret at hs1
  split at hs1
  · next nm q hty =>
    obtain ⟨hfit, hs2⟩ := mj_ifm hs1
    cases hs2
    obtain ⟨rr, t1, rfl, e1, hr1⟩ := mj_sr_cons hr
    have ht1 := mj_sr_nil hr1
    subst ht1
    have hmc : mc = cells := by omega
    have hms : ms = slots := by omega
    subst hmc; subst hms
    obtain ⟨a, rfl⟩ := mj_rv_ref hF.1 e1 hfit
    exact vx_ret (W.aret hx hb (by rw [hret]; exact hty) (Or.inl ⟨nm, rfl⟩) (Or.inr ⟨a, rfl⟩) (fun t ht hW => ⟨⟨_, _, ws, rfl, rfl, mj_sr_mk e1 rfl, by rw [ht]; exact hP, hD, mj_wr_moved hW.alike hw, hp⟩, hS.F ht⟩) hS.2.2 hd hlocks)
  · cases hs1
theorem mj_e_return (C : mj_Cx p l R s m args meth c ct X D A M d) (hd : decode M.2.1 pc = .ok (.return_, len)) (hs : mj_step X M .return_ len pc L st w = some (.inr (.inl (out, wf)))) (h3 : wf.2.1 = c0 + mc) (h4 : wf.2.2 = s0 + ms) : mj_G p l e R s m args below meth c ct D A (vx_MQ below (mj_Qc ct D A ads0 out wf) (mj_XC ct D A ads0 out wf) args s mc ms A) ads0 c0 s0 pc L st w := by
  obtain ⟨rfl, hs1⟩ := mj_ifn hs
  obtain ⟨hx, hb, hown, hts, hF, hA, hK, hret, hlocks, -⟩ := id C
  intro ws H locs cells slots ls rst ⟨hP, hD, hS, hw, hp, hl, hr, hn, h1, h2⟩
  unfold mj_vret at hs1
  split at hs1
  · next hty =>
    cases hs1
    have ht1 := mj_sr_nil hr
    subst ht1
    have hmc : mc = cells := by omega
    have hms : ms = slots := by omega
    subst hmc; subst hms
    exact vx_ret (W.vret hx hb (by rw [hret]; exact hty) (fun t ht hW => ⟨⟨_, _, ws, rfl, rfl, rfl, by rw [ht]; exact hP, hD, mj_wr_moved hW.alike hw, hp⟩, hS.F ht⟩) hS.2.2 hd hlocks)
  · cases hs1
end MJE
