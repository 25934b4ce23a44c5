/-! THE RUN OF THE SMALL MACHINE IS A RUN OF THE MACHINE -/
theorem mj_pool0 (c : Nat) : mj_pool c 0 = none := by
  unfold mj_pool
  split <;> first | rfl | decide +kernel
theorem mj_catch_inv {c pc e h : Nat} : ∀ {hh : List (Nat × Nat × Nat × Nat)}, mj_catch c hh pc e = some h → ∃ pre x suf q, hh = pre ++ x :: suf ∧ x.2.2.1 = h ∧ (x.1 ≤ pc ∧ pc < x.2.1) ∧ mj_pool c x.2.2.2 = some (9, e, q) ∧ ∀ z ∈ pre, ¬ (z.1 ≤ pc ∧ pc < z.2.1) ∨ ∃ e' q', mj_pool c z.2.2.2 = some (9, e', q') ∧ e' ≠ e
  | [], hc => nomatch hc
  | x :: r, hc => by
    unfold mj_catch at hc
    split at hc
    · next hcov =>
      split at hc
      · next e' q' hp =>
        split at hc
        · next he =>
          cases hc
          subst he
          exact ⟨[], x, r, q', rfl, rfl, hcov, hp, fun _ hz => nomatch hz⟩
        · next he =>
          obtain ⟨pre, y, suf, q, h1, h2, h3, h4, h5⟩ := mj_catch_inv hc
          refine ⟨x :: pre, y, suf, q, by rw [h1]; rfl, h2, h3, h4, fun z hz => ?_⟩
          rcases List.mem_cons.mp hz with rfl | hz
          · exact Or.inr ⟨e', q', hp, he⟩
          · exact h5 z hz
      · cases hc
    · next hcov =>
      obtain ⟨pre, y, suf, q, h1, h2, h3, h4, h5⟩ := mj_catch_inv hc
      refine ⟨x :: pre, y, suf, q, by rw [h1]; rfl, h2, h3, h4, fun z hz => ?_⟩
      rcases List.mem_cons.mp hz with rfl | hz
      · exact Or.inl hcov
      · exact h5 z hz
theorem mj_castw (e : Nat) (he : e < 2) : Cond.castable (mj_exn e) (mj_exn e) ∈ mj_nest := by
  match e, he with
  | 0, _ => decide +kernel
  | 1, _ => decide +kernel
  | e + 2, h => omega
section MJC
variable {p : Program} {l : Launch} {e : Env} {R : Room} {s : State} {m : MethodId} {args : Array Value} {below : List Frame} {meth : Method} {c : Code} {ct : Nat → Option Value} {X : mj_X} {D : va_G} {A : Nat → Prop} {Q : State → Prop} {ads0 : List Nat} {c0 s0 d len pc mc ms : Nat} {M : mj_M} {L : mj_L} {st : List Value} {w wf : mj_W} {out : mj_O} {i : Instr}
/-- an exception is caught, and put away -/
theorem mj_catch_ok {en h pc' : Nat} {L' : mj_L} (C : mj_Cx p l R s m args meth c ct X D A M d) (hc : mj_catch M.2.2.2.2.2.1 M.2.2.2.2.2.2.2 pc en = some h) (hh : mj_hand M h L = some (pc', L')) (k : mj_G p l e R s m args below meth c ct D A Q ads0 c0 s0 pc' L' [] w)
    {ws : va_W} {H : Heap} {locs : List Loc} {cells slots : Nat} {ls : Array Slot} {rrest : List Value} {ce : Cell} {q : Addr} (hS9 : mj_S s c ct D A ads0 c0 s0 L [] w ws H locs cells slots ls []) (hen : en < 2) (hcell : H[q]? = some ce) (hv : ce.vm = .none) (hcl : s.vm.findClass (mj_exn en) = some ce.cls) : vx_W p l e R s m args below meth c H locs cells slots Q (F0 m pc ls rrest) q := by
  obtain ⟨hx, hb, hown, hts, hF, hA, hK, hret, hlocks, htab, hst, hinit, hRR, hml⟩ := id C
  obtain ⟨hP, hD, hS, hw, hp, hl, hr, hn, h1, h2⟩ := hS9
  obtain ⟨pre, x, suf, q9, e1, e2, e3, e4, e5⟩ := mj_catch_inv hc
  have hne0 : ∀ y : Nat × Nat × Nat × Nat, ∀ lk, mj_pool M.2.2.2.2.2.1 y.2.2.2 = some lk → y.2.2.2 ≠ 0 := fun y lk hy h0 => by
    rw [h0, mj_pool0] at hy
    cases hy
  refine vx_catch (own := mj_cls M.2.2.2.2.2.1) (name := mj_exn en) (E := mj_exn en) (ce := ce) hown (tableOf pre) ⟨x.1, x.2.1, x.2.2.1, x.2.2.2⟩ (tableOf suf) (by rw [htab, e1]; simp [tableOf]) ?_ ?_ (hne0 x _ e4) (hts _ (mj_pool_ok e4).2) (va_Nw.use rfl (hF.2.1 _ (mj_castw en hen))) hcell hv hcl ?_
  · intro z hz
    simp only [tableOf, List.mem_map] at hz
    obtain ⟨y, hy, rfl⟩ := hz
    rcases e5 y hy with h9 | ⟨e', q', h9, h10⟩
    · left
      simp only [covers, Bool.and_eq_false_iff, decide_eq_false_iff_not]
      by_cases h11 : y.1 ≤ pc
      · right; exact fun h12 => h9 ⟨h11, h12⟩
      · left; exact h11
    · right
      obtain ⟨he2, hlk⟩ := mj_pool_ok h9
      refine ⟨hne0 y _ h9, mj_exn e', hts _ hlk, ?_⟩
      have hNc := hF.2.2.2.2.2.2.2.2.2
      match en, e', hen, he2, h10 with
      | 0, 1, _, _, _ => exact hNc.1
      | 1, 0, _, _, _ => exact hNc.2
      | 0, 0, _, _, h => exact absurd rfl h
      | 1, 1, _, _, h => exact absurd rfl h
      | en + 2, _, h, _, _ => omega
      | _, e' + 2, _, h, _ => omega
  · simp only [covers, Bool.and_eq_true, decide_eq_true_eq]
    exact e3
  · show W p l e R s m args below meth c H locs cells slots Q (F0 m x.2.2.1 ls [.ref q])
    rw [e2]
    unfold mj_hand at hh
    obtain ⟨lv, l1, l2⟩ := hl
    split at hh
    · next kk hdk =>
      obtain ⟨⟨g1, g2⟩, g3⟩ := mj_ifn hh
      cases g3
      exact lv_astore_n hx hb hdk rfl l1 g1 rfl (fun ls' h' => k ws H locs cells slots ls' [] ⟨hP, hD, hS, hw, hp, mj_lr_drop l2 hF.1 g1 g2 ls' h', rfl, by rw [List.length_set]; exact hn, h1, h2⟩)
    · next kk hdk =>
      obtain ⟨⟨g1, g2⟩, g3⟩ := mj_ifn hh
      cases g3
      exact lv_astore hx hb hdk l1 g1 rfl (fun ls' h' => k ws H locs cells slots ls' [] ⟨hP, hD, hS, hw, hp, mj_lr_drop l2 hF.1 g1 g2 ls' h', rfl, by rw [List.length_set]; exact hn, h1, h2⟩)
    · cases hh
end MJC
theorem mj_sound {l : Launch} (hst : l.stackTraces = false) {ct : Nat → Option Value} {X : mj_X} {D : va_G} : ∀ (n d y pc : Nat) (L : mj_L) (st : List Value) (w : mj_W) (out : mj_O) (wf : mj_W), mj_run X n d y pc L st w = some (out, wf) → ∀ (M : mj_M), mj_meth y = some M →
    ∀ (p : Program) (e : Env) (R : Room) (s : State) (m : MethodId) (args : Array Value) (below : List Frame) (meth : Method) (c : Code) (A : Nat → Prop) (Q : State → Prop) (ads0 : List Nat) (c0 s0 : Nat), mj_Cx p l R s m args meth c ct X D A M d → (wf.2.1 ≤ c0 + R.cells ∧ wf.2.2 ≤ s0 + R.slots) →
    (∀ (pc : Nat) (L : mj_L) (st : List Value) (w : mj_W) (i : Instr) (len : Nat), decode M.2.1 pc = .ok (i, len) → mj_step X M i len pc L st w = some (.inr (.inl (out, wf))) → mj_G p l e R s m args below meth c ct D A Q ads0 c0 s0 pc L st w) →
    (∀ en, out = .inr en → M.2.2.2.2.2.2.2 = [] → ∀ (pc : Nat) (L : mj_L) (ws : va_W) (H : Heap) (locs : List Loc) (cells slots : Nat) (ls : Array Slot) (rrest : List Value) (ce : Cell) (q : Addr), mj_S s c ct D A ads0 c0 s0 L [] wf ws H locs cells slots ls [] → en < 2 → H[q]? = some ce → ce.vm = .none → s.vm.findClass (mj_exn en) = some ce.cls → vx_W p l e R s m args below meth c H locs cells slots Q (F0 m pc ls rrest) q) →
    mj_G p l e R s m args below meth c ct D A Q ads0 c0 s0 pc L st w
  | 0, _, _, _, _, _, _, _, _, h => nomatch h
  | n + 1, d, y, pc, L, st, w, out, wf, h => by
    intro M hM p e R s m args below meth c A Q ads0 c0 s0 C hcap hend hthr
    unfold mj_run at h
    rw [hM] at h
    dsimp only at h
    split at h
    · cases h
    · next i len hd =>
      split at h
      · cases h
      · next pc' L' st' w' hs =>
        have hm := mj_run_mono h
        exact mj_step_ok C hd hs ⟨Nat.le_trans hm.1 hcap.1, Nat.le_trans hm.2 hcap.2⟩ (mj_sound hst n d y pc' L' st' w' out wf h M hM p e R s m args below meth c A Q ads0 c0 s0 C hcap hend hthr)
      · next o hs =>
        cases h
        exact hend pc L st w i len hd hs
      · next z As rest hs =>
        split at h
        · next d' Z hZ =>
          obtain ⟨hlen, h⟩ := mj_ifn h
          -- the callee's contract
          have callee : ∀ (o' : mj_O) (w' : mj_W), mj_run X n d' z 0 (mj_entry Z.2.2.1 As) [] w = some (o', w') → mj_mok Z → ∀ (ws : va_W) (sz : Nat) (Bs : List Value), mj_sr ct (ws.map Prod.fst) As Bs →
              vx_Met l Z.1 (mj_cw Z :: mj_tbl) (mj_room d' (w'.2.1 - w.2.1) (w'.2.2 - w.2.2)) (mj_Pc ct X D ws w sz Bs) (mj_Qc ct D (va_A ws sz) (ws.map Prod.fst) o' w') (mj_XC ct D (va_A ws sz) (ws.map Prod.fst) o' w') (w'.2.1 - w.2.1) (w'.2.2 - w.2.2) (va_A ws sz) := by
            intro o' w' hrun hmok ws sz Bs hAs
            have hm := mj_run_mono hrun
            have e1 : w'.2.1 = w.2.1 + (w'.2.1 - w.2.1) := by have := hm.1; omega
            have e2 : w'.2.2 = w.2.2 + (w'.2.2 - w.2.2) := by have := hm.2; omega
            refine mj_met hmok hst hAs hlen (fun p e s m args below meth c hC => ?_)
            refine mj_sound hst n d' z 0 _ _ w o' w' hrun Z hZ p e _ s m args below meth c (va_A ws sz) _ _ _ _ hC ⟨Nat.le_of_eq e1, Nat.le_of_eq e2⟩ (fun pc L st w1 i len hd hs => mj_end_ok hC hd hs e1 e2 ⟨Nat.le_refl _, Nat.le_refl _⟩) ?_
            intro en ho hhh pc L ws1 H locs cells slots ls rrest ce q hS9 hen hcell hv hcl
            subst ho
            obtain ⟨hP, hD, hS, hw, hp, hl, hr, hn, h1, h2⟩ := hS9
            refine vx_out (E := mj_exn en) (ce := ce) ?_ hC.2.2.2.2.2.2.2.2.1 hcell hv hcl (fun t ht hal => ⟨⟨en, ws1, rfl, hen, rfl, by rw [ht]; exact hP, hD, mj_wr_moved hal hw, hp⟩, hS.F ht⟩) hS.2.2 (by omega) (by omega)
            intro x hx
            rw [hC.2.2.2.2.2.2.2.2.2.1, hhh] at hx
            cases hx
          split at h
          · cases h
          · next v w' hrun =>
            have hm := mj_run_mono hrun
            have hm2 := mj_run_mono h
            intro ws H locs cells slots ls rst hSS
            have h1 := hSS.2.2.2.2.2.2.2.2.1
            have h2 := hSS.2.2.2.2.2.2.2.2.2
            obtain ⟨hm1a, hm1b⟩ := hm
            obtain ⟨hm2a, hm2b⟩ := hm2
            obtain ⟨hc1, hc2⟩ := hcap
            obtain ⟨Z', Bs, rrest, hZ', hmok, hAs, hrest, hvx⟩ := mj_call_vx (out := .inl v) (wf := w') (mc := w'.2.1 - w.2.1) (ms := w'.2.2 - w.2.2) (e := e) (below := below) C hd hs hSS ⟨by omega, by omega⟩
            cases hZ.symm.trans hZ'
            exact mj_after (hvx (callee _ w' hrun hmok ws H.size Bs hAs)) hSS.2.1 hSS.2.2.1 C.2.2.2.2.2.1 hSS.2.2.2.2.1 hSS.2.2.2.2.2.1 hrest hSS.2.2.2.2.2.2.2.1 (by omega) (by omega) (mj_sound hst n (d' + 1) y (pc + 3) L (v.toList ++ rest) w' out wf h M hM p e R s m args below meth c A Q ads0 c0 s0 C ⟨hc1, hc2⟩ hend hthr)
          · next en w' hrun =>
            have hm := mj_run_mono hrun
            split at h
            · next hhh =>
              cases h
              intro ws H locs cells slots ls rst hSS
              have h1 := hSS.2.2.2.2.2.2.2.2.1
              have h2 := hSS.2.2.2.2.2.2.2.2.2
              obtain ⟨hm1a, hm1b⟩ := hm
              obtain ⟨hc1, hc2⟩ := hcap
              obtain ⟨Z', Bs, rrest, hZ', hmok, hAs, hrest, hvx⟩ := mj_call_vx (out := .inr en) (wf := wf) (mc := wf.2.1 - w.2.1) (ms := wf.2.2 - w.2.2) (e := e) (below := below) C hd hs hSS ⟨by omega, by omega⟩
              cases hZ.symm.trans hZ'
              exact mj_afterX (hvx (callee _ wf hrun hmok ws H.size Bs hAs)) hSS.2.1 hSS.2.2.1 C.2.2.2.2.2.1 hSS.2.2.2.2.1 hSS.2.2.2.2.2.1 hSS.2.2.2.2.2.2.2.1 (by omega) (by omega) (fun ws' H' locs' ce q hS' hen hcell hv hcl => hthr en rfl hhh pc L ws' H' locs' _ _ ls rrest ce q hS' hen hcell hv hcl)
            · split at h
              · cases h
              · next hx hc =>
                split at h
                · cases h
                · next pc' L' hh =>
                  have hm2 := mj_run_mono h
                  intro ws H locs cells slots ls rst hSS
                  have h1 := hSS.2.2.2.2.2.2.2.2.1
                  have h2 := hSS.2.2.2.2.2.2.2.2.2
                  obtain ⟨hm1a, hm1b⟩ := hm
                  obtain ⟨hm2a, hm2b⟩ := hm2
                  obtain ⟨hc1, hc2⟩ := hcap
                  obtain ⟨Z', Bs, rrest, hZ', hmok, hAs, hrest, hvx⟩ := mj_call_vx (out := .inr en) (wf := w') (mc := w'.2.1 - w.2.1) (ms := w'.2.2 - w.2.2) (e := e) (below := below) C hd hs hSS ⟨by omega, by omega⟩
                  cases hZ.symm.trans hZ'
                  exact mj_afterX (hvx (callee _ w' hrun hmok ws H.size Bs hAs)) hSS.2.1 hSS.2.2.1 C.2.2.2.2.2.1 hSS.2.2.2.2.1 hSS.2.2.2.2.2.1 hSS.2.2.2.2.2.2.2.1 (by omega) (by omega) (fun ws' H' locs' ce q hS' hen hcell hv hcl => mj_catch_ok C hc hh (mj_sound hst n (d' + 1) y pc' L' [] w' out wf h M hM p e R s m args below meth c A Q ads0 c0 s0 C ⟨hc1, hc2⟩ hend hthr) hS' hen hcell hv hcl)
          
        · cases h
