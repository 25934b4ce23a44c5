/-! the whole run -/
section MJR
variable {p : Program} {l : Launch} {e : Env} {R : Room} {s : State} {m : MethodId} {args : Array Value} {below : List Frame} {meth : Method} {c : Code} {ct : Nat → Option Value} {X : mj_X} {D : va_G} {A : Nat → Prop} {Q : State → Prop} {ads0 : List Nat} {c0 s0 d len pc mc ms : Nat} {M : mj_M} {L : mj_L} {st : List Value} {w wf : mj_W} {out : mj_O} {i : Instr}
theorem mj_end_ok (C : mj_Cx p l R s m args meth c ct X D A M d) (hd : decode M.2.1 pc = .ok (i, len)) (hs : mj_step X M i len pc L st w = some (.inr (.inl (out, wf)))) (h3 : wf.2.1 = c0 + mc) (h4 : wf.2.2 = s0 + ms) (hcap : mc ≤ R.cells ∧ ms ≤ R.slots) : mj_G p l e R s m args below meth c ct D A (vx_MQ below (mj_Qc ct D A ads0 out wf) (mj_XC ct D A ads0 out wf) args s mc ms A) ads0 c0 s0 pc L st w := by
  rcases mj_step_kind hs with rfl | rfl | rfl | ⟨ix, rfl⟩
  · exact mj_e_ireturn C hd hs h3 h4
  · exact mj_e_areturn C hd hs h3 h4
  · exact mj_e_return C hd hs h3 h4
  · exact mj_e_new C hd hs h3 h4 hcap
theorem mj_inv_inv {b : Bool} {z0 z : Nat} {As rest : List Value} (h : mj_inv b z0 st w = some (.inr (.inr (z, As, rest)))) : z0 = z ∧ ∃ Z, mj_meth z = some Z ∧ Z.2.2.2.2.1 ≤ st.length ∧ (rest.map fun v => v.category).sum ≤ 8 ∧
    ((b = false ∧ As = (st.take Z.2.2.2.2.1).reverse ∧ rest = st.drop Z.2.2.2.2.1) ∨ (b = true ∧ ∃ k, st[Z.2.2.2.2.1]? = some (.ref k) ∧ mj_rcv w k = some Z.2.2.2.2.2.1 ∧ As = .ref k :: (st.take Z.2.2.2.2.1).reverse ∧ rest = st.drop (Z.2.2.2.2.1 + 1))) := by
  unfold mj_inv at h
  split at h
  · cases h
  · next Z hZ =>
    obtain ⟨⟨hlen, hcat⟩, h3⟩ := mj_ifn h
    cases b with
    | true =>
      rw [if_pos rfl] at h3 hcat
      split at h3
      · next k hk =>
        obtain ⟨hrc, h4⟩ := mj_ifn h3
        cases h4
        exact ⟨rfl, Z, hZ, hlen, hcat, Or.inr ⟨rfl, k, hk, hrc, rfl, rfl⟩⟩
      · cases h3
    | false =>
      rw [if_neg (by decide)] at h3 hcat
      cases h3
      exact ⟨rfl, Z, hZ, hlen, hcat, Or.inl ⟨rfl, rfl, rfl⟩⟩
theorem mj_split {α : Type} (l : List α) (n : Nat) : (l.take n).reverse.reverse ++ l.drop n = l := by rw [List.reverse_reverse, List.take_append_drop]
theorem mj_split1 {α : Type} {l : List α} {n : Nat} {a : α} (h : l[n]? = some a) : (l.take n).reverse.reverse ++ a :: l.drop (n + 1) = l := by
  rw [List.reverse_reverse]
  obtain ⟨hl, he⟩ := List.getElem?_eq_some_iff.mp h
  rw [← he, ← List.drop_eq_getElem_cons hl, List.take_append_drop]
/-- a receiver's class -/
theorem mj_recv {ws : va_W} {H : Heap} {locs : List Loc} (C : mj_Cx p l R s m args meth c ct X D A M d) (hP : va_P D vwCl ws H) (hS : va_S A s.heap H locs) (hw : mj_wr ct w.1 ws s) {k n : Nat} (h : mj_rcv w k = some n) {rr : Value} (hr : mj_rv ct (ws.map Prod.fst) (.ref k) = some rr) : ∃ b, rr = .ref b ∧ ∃ cell : Cell, H[b]? = some cell ∧ cell.vm.isStatics = false ∧ s.vm.findClass (mj_cls n) = some cell.cls := by
  obtain ⟨hx, hb, hown, hts, hF, hA, hK, -⟩ := id C
  unfold mj_rcv at h
  split at h
  · next hk =>
    split at h
    · next cc fs hwk =>
      cases h
      obtain ⟨a, ee, rfl, hk2, rs, rfl, hfs⟩ := mj_wr_ref hw hwk hk hr
      obtain ⟨r9, h9, -⟩ := hP k _ hk2
      have hn : n < 10 := (List.getElem?_eq_some_iff.mp h9).1
      exact ⟨a, rfl, va_recv hK hP (mj_vw hn) hk2⟩
    · cases h
  · obtain ⟨⟨h1, h2⟩, h3⟩ := mj_ifn h
    cases h3
    obtain ⟨a, b, rfl, -, ⟨cell, o1, o2, o3, o4⟩, -⟩ := mj_text hF h1 h2 hr
    have hlt : a < s.heap.size := (Array.getElem?_eq_some_iff.mp o1).1
    exact ⟨a, rfl, cell, by rw [hS.2.1 a hlt o4]; exact o1, o2, o3⟩
/-- a call of the small machine is a call -/
theorem mj_call_vx {z : Nat} {As rest : List Value} {ws : va_W} {H : Heap} {locs : List Loc} {cells slots : Nat} {ls : Array Slot} {rst : List Value} (C : mj_Cx p l R s m args meth c ct X D A M (d + 1)) (hd : decode M.2.1 pc = .ok (i, len)) (hs : mj_step X M i len pc L st w = some (.inr (.inr (z, As, rest))))
    (hSS : mj_S s c ct D A ads0 c0 s0 L st w ws H locs cells slots ls rst) (hcap : cells + mc ≤ R.cells ∧ slots + ms ≤ R.slots) :
    ∃ Z Bs rrest, mj_meth z = some Z ∧ mj_mok Z ∧ mj_sr ct (ws.map Prod.fst) As Bs ∧ mj_sr ct (ws.map Prod.fst) rest rrest ∧
      (vx_Met l Z.1 (mj_cw Z :: mj_tbl) (mj_room d mc ms) (mj_Pc ct X D ws w H.size Bs) (mj_Qc ct D (va_A ws H.size) (ws.map Prod.fst) out wf) (mj_XC ct D (va_A ws H.size) (ws.map Prod.fst) out wf) mc ms (va_A ws H.size) →
       vx_Run p l e R s m args below meth c H locs cells slots mc ms (F0 m pc ls rst) rrest (mj_Qc ct D (va_A ws H.size) (ws.map Prod.fst) out wf Bs.toArray) (mj_XC ct D (va_A ws H.size) (ws.map Prod.fst) out wf) (va_A ws H.size)) := by
  obtain ⟨hP, hD, hS, hw, hp, hl, hr, hn, h1, h2⟩ := hSS
  have hF := C.2.2.2.2.1
  have hsz : ls.size = c.maxLocals := by
    obtain ⟨lv, l1, -⟩ := hl
    rw [l1.1, hn]
  -- a call without a receiver
  have stat : ∀ (z0 : Nat) (Z0 : mj_M), mj_meth z0 = some Z0 → Z0.1.name ≠ "law" → mj_inv false z0 st w = some (.inr (.inr (z, As, rest))) →
      (∀ (Bs rrest : List Value), Bs.length = Z0.2.2.2.2.1 → (rrest.map fun v => v.category).sum ≤ 8 → rst = Bs.reverse ++ rrest → mj_mok Z0 →
        vx_Met l Z0.1 (mj_cw Z0 :: mj_tbl) (mj_room d mc ms) (mj_Pc ct X D ws w H.size Bs) (mj_Qc ct D (va_A ws H.size) (ws.map Prod.fst) out wf) (mj_XC ct D (va_A ws H.size) (ws.map Prod.fst) out wf) mc ms (va_A ws H.size) →
        vx_Run p l e R s m args below meth c H locs cells slots mc ms (F0 m pc ls rst) rrest (mj_Qc ct D (va_A ws H.size) (ws.map Prod.fst) out wf Bs.toArray) (mj_XC ct D (va_A ws H.size) (ws.map Prod.fst) out wf) (va_A ws H.size)) →
      ∃ Z Bs rrest, mj_meth z = some Z ∧ mj_mok Z ∧ mj_sr ct (ws.map Prod.fst) As Bs ∧ mj_sr ct (ws.map Prod.fst) rest rrest ∧
      (vx_Met l Z.1 (mj_cw Z :: mj_tbl) (mj_room d mc ms) (mj_Pc ct X D ws w H.size Bs) (mj_Qc ct D (va_A ws H.size) (ws.map Prod.fst) out wf) (mj_XC ct D (va_A ws H.size) (ws.map Prod.fst) out wf) mc ms (va_A ws H.size) →
       vx_Run p l e R s m args below meth c H locs cells slots mc ms (F0 m pc ls rst) rrest (mj_Qc ct D (va_A ws H.size) (ws.map Prod.fst) out wf Bs.toArray) (mj_XC ct D (va_A ws H.size) (ws.map Prod.fst) out wf) (va_A ws H.size)) := by
    intro z0 Z0 hZ0 hlaw hinv hrun
    obtain ⟨rfl, Z, hZ, hlen, hcat, ⟨-, rfl, rfl⟩ | ⟨hb, -⟩⟩ := mj_inv_inv hinv
    · cases hZ0.symm.trans hZ
      have hmok := mj_meth_ok hZ hlaw
      have hrr := mj_sr_drop hr Z0.2.2.2.2.1
      refine ⟨Z0, (rst.take Z0.2.2.2.2.1).reverse, rst.drop Z0.2.2.2.2.1, hZ, hmok, mj_sr_rev (mj_sr_take hr _), hrr, hrun _ _ ?_ ?_ (mj_split rst _).symm hmok⟩
      · rw [List.length_reverse, List.length_take, ← mj_sr_len hr]
        omega
      · rw [mj_sum_cat hF.1 hrr]
        exact hcat
    · cases hb
  -- a call by a receiver
  have virt : ∀ (z0 : Nat) (Z0 : mj_M), mj_meth z0 = some Z0 → Z0.1.name ≠ "law" → mj_inv true z0 st w = some (.inr (.inr (z, As, rest))) →
      (∀ (b : Nat) (Bs rrest : List Value), Bs.length = Z0.2.2.2.2.1 → (rrest.map fun v => v.category).sum ≤ 8 → rst = Bs.reverse ++ .ref b :: rrest → mj_mok Z0 → (∃ cell : Cell, H[b]? = some cell ∧ cell.vm.isStatics = false ∧ s.vm.findClass Z0.1.cls = some cell.cls) →
        vx_Met l Z0.1 (mj_cw Z0 :: mj_tbl) (mj_room d mc ms) (mj_Pc ct X D ws w H.size (.ref b :: Bs)) (mj_Qc ct D (va_A ws H.size) (ws.map Prod.fst) out wf) (mj_XC ct D (va_A ws H.size) (ws.map Prod.fst) out wf) mc ms (va_A ws H.size) →
        vx_Run p l e R s m args below meth c H locs cells slots mc ms (F0 m pc ls rst) rrest (mj_Qc ct D (va_A ws H.size) (ws.map Prod.fst) out wf (.ref b :: Bs).toArray) (mj_XC ct D (va_A ws H.size) (ws.map Prod.fst) out wf) (va_A ws H.size)) →
      ∃ Z Bs rrest, mj_meth z = some Z ∧ mj_mok Z ∧ mj_sr ct (ws.map Prod.fst) As Bs ∧ mj_sr ct (ws.map Prod.fst) rest rrest ∧
      (vx_Met l Z.1 (mj_cw Z :: mj_tbl) (mj_room d mc ms) (mj_Pc ct X D ws w H.size Bs) (mj_Qc ct D (va_A ws H.size) (ws.map Prod.fst) out wf) (mj_XC ct D (va_A ws H.size) (ws.map Prod.fst) out wf) mc ms (va_A ws H.size) →
       vx_Run p l e R s m args below meth c H locs cells slots mc ms (F0 m pc ls rst) rrest (mj_Qc ct D (va_A ws H.size) (ws.map Prod.fst) out wf Bs.toArray) (mj_XC ct D (va_A ws H.size) (ws.map Prod.fst) out wf) (va_A ws H.size)) := by
    intro z0 Z0 hZ0 hlaw hinv hrun
    obtain ⟨rfl, Z, hZ, hlen, hcat, ⟨hb, -⟩ | ⟨-, k, hk, hrc, rfl, rfl⟩⟩ := mj_inv_inv hinv
    · cases hb
    · cases hZ0.symm.trans hZ
      have hmok := mj_meth_ok hZ hlaw
      have hrr := mj_sr_drop hr (Z0.2.2.2.2.1 + 1)
      obtain ⟨rk, hrk, ek⟩ := mj_sr_get hr hk
      obtain ⟨b, rfl, hcell⟩ := mj_recv C hP hS hw hrc ek
      refine ⟨Z0, .ref b :: (rst.take Z0.2.2.2.2.1).reverse, rst.drop (Z0.2.2.2.2.1 + 1), hZ, hmok, mj_sr_mk ek (mj_sr_rev (mj_sr_take hr _)), hrr, hrun b _ _ ?_ ?_ (mj_split1 hrk).symm hmok (by rw [hmok.2.1]; exact hcell)⟩
      · rw [List.length_reverse, List.length_take, ← mj_sr_len hr]
        omega
      · rw [mj_sum_cat hF.1 hrr]
        exact hcat
  obtain ⟨ix, hi⟩ := mj_step_kind hs
  rcases hi with rfl | rfl | rfl
  · obtain ⟨rfl, hs1⟩ := mj_ifn hs
    unfold mj_invv at hs1
    split at hs1
    · next z0 hlk =>
      split at hs1
      · next Z0 hZ0 =>
        obtain ⟨hhh, hs2⟩ := mj_ifn hs1
        obtain ⟨Z1, hZ1, hlink, -, hk1, -, hlaw⟩ := mj_pool_ok hlk
        cases hZ0.symm.trans hZ1
        refine virt z0 Z0 hZ0 hlaw hs2 (fun b Bs rrest q1 q2 q3 q4 q5 hM => ?_)
        rw [q3]
        exact mj_runV C q4 hhh hlink (hk1 rfl).1 (hk1 rfl).2 hd q5 hM hP hD hS hw hsz q1 q2 hcap
      · cases hs1
    · cases hs1
  · obtain ⟨rfl, hs1⟩ := mj_ifn hs
    unfold mj_invi at hs1
    split at hs1
    · obtain ⟨-, hs2⟩ := mj_ifn hs1
      cases hs2
    · next z0 hlk =>
      split at hs1
      · next Z0 hZ0 =>
        obtain ⟨hhh, hs2⟩ := mj_ifn hs1
        obtain ⟨Z1, hZ1, hlink, -, -, hk2, hlaw⟩ := mj_pool_ok hlk
        cases hZ0.symm.trans hZ1
        refine virt z0 Z0 hZ0 hlaw hs2 (fun b Bs rrest q1 q2 q3 q4 q5 hM => ?_)
        rw [q3]
        exact mj_runI C q4 hhh (hk2 rfl).2.2 (hk2 rfl).2.1 hlink (hk2 rfl).1 hd hM hP hD hS hw hsz q1 q2 hcap
      · cases hs1
    · next z0 hlk =>
      split at hs1
      · next Z0 hZ0 =>
        obtain ⟨hhh, hs2⟩ := mj_ifn hs1
        obtain ⟨Z1, hZ1, hlink, -, hk2, hlaw⟩ := mj_pool_ok hlk
        cases hZ0.symm.trans hZ1
        refine virt z0 Z0 hZ0 hlaw hs2 (fun b Bs rrest q1 q2 q3 q4 q5 hM => ?_)
        rw [q3]
        exact mj_runIN C q4 hhh (hk2 rfl).2.2 (hk2 rfl).2.1 hlink (hk2 rfl).1 hd hM hP hD hS hw hsz q1 q2 hcap
      · cases hs1
    · cases hs1
  · obtain ⟨rfl, hs1⟩ := mj_ifn hs
    unfold mj_invs at hs1
    split at hs1
    · exfalso
      unfold mj_copy at hs1
      split at hs1
      · obtain ⟨-, hs2⟩ := mj_ifn hs1
        split at hs2
        · obtain ⟨-, hs3⟩ := mj_ifn hs2
          cases hs3
        · obtain ⟨-, hs3⟩ := mj_ifn hs2
          cases hs3
        · cases hs2
      · cases hs1
    · exfalso
      unfold mj_math at hs1
      split at hs1
      · obtain ⟨-, hs2⟩ := mj_ifn hs1
        cases hs2
      · obtain ⟨-, hs2⟩ := mj_ifn hs1
        cases hs2
      · obtain ⟨-, hs2⟩ := mj_ifn hs1
        cases hs2
      · cases hs1
    · next z0 hlk =>
      obtain ⟨Z0, hZ0, hlink, hk0, -, -, hlaw⟩ := mj_pool_ok hlk
      refine stat z0 Z0 hZ0 hlaw hs1 (fun Bs rrest q1 q2 q3 q4 hM => ?_)
      rw [q3]
      exact mj_runS C q4 hlink (hk0 rfl) hd hM hP hD hS hw hsz q1 q2 hcap
    · next z0 hlk =>
      split at hs1
      · next Z0 hZ0 =>
        obtain ⟨hhh, hs2⟩ := mj_ifn hs1
        obtain ⟨Z1, hZ1, hlink, hk0, -, hlaw⟩ := mj_pool_ok hlk
        cases hZ0.symm.trans hZ1
        refine stat z0 Z0 hZ0 hlaw hs2 (fun Bs rrest q1 q2 q3 q4 hM => ?_)
        rw [q3]
        exact mj_runSN C q4 hhh hlink (hk0 rfl) hd hM hP hD hS hw hsz q1 q2 hcap
      · cases hs1
    · cases hs1
end MJR
