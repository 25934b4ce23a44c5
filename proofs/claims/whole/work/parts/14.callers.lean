/-! the caller's side -/
theorem mj_rm1 {d a : Nat} (h : d + 1 + 10 ≤ a) : d + 10 + 1 ≤ a := by omega
set_option maxRecDepth 20000 in
theorem mj_rm2 {d n b : Nat} (hn : n ≤ 40) (h : 64 * (d + 1) + 400 ≤ b) : 8 + (n + 11) + (64 * d + 400) ≤ b := by omega
section MJK
variable {p : Program} {l : Launch} {e : Env} {R : Room} {s : State} {m : MethodId} {args : Array Value} {below : List Frame} {meth : Method} {c : Code} {ct : Nat → Option Value} {X : mj_X} {D : va_G} {A : Nat → Prop} {Q : State → Prop} {ads0 : List Nat} {c0 s0 d len pc mc ms : Nat} {M Z : mj_M} {L : mj_L} {st As rest : List Value} {w wf : mj_W} {out : mj_O}
theorem mj_rng (ws : va_W) : (List.range ws.length).map (fun i => ws[i]?) = ws.map some := by
  apply List.ext_getElem?
  intro i
  rw [List.getElem?_map, List.getElem?_map]
  by_cases hi : i < ws.length
  · rw [List.getElem?_range hi, List.getElem?_eq_getElem hi]
    show some (ws[i]?) = some (some ws[i])
    rw [List.getElem?_eq_getElem hi]
  · rw [List.getElem?_eq_none (by simpa using hi), List.getElem?_eq_none (by simpa using hi)]
    rfl
/-- behind the call: it returned -/
theorem mj_after {ws : va_W} {H : Heap} {locs : List Loc} {cells slots : Nat} {ls : Array Slot} {rst rrest : List Value} {a : Array Value} {v : Option Value}
    (hr : vx_Run p l e R s m args below meth c H locs cells slots mc ms (F0 m pc ls rst) rrest (mj_Qc ct D (va_A ws H.size) (ws.map Prod.fst) (.inl v) wf a) (mj_XC ct D (va_A ws H.size) (ws.map Prod.fst) (.inl v) wf) (va_A ws H.size))
    (hD : va_D A ws) (hS : va_S A s.heap H locs) (hA : ∀ q, s.heap.size ≤ q → A q) (hp : mj_pre ads0 (ws.map Prod.fst)) (hl : mj_lr ct (ws.map Prod.fst) L ls) (hrest : mj_sr ct (ws.map Prod.fst) rest rrest) (hn : L.length = c.maxLocals) (h1 : wf.2.1 = c0 + (cells + mc)) (h2 : wf.2.2 = s0 + (slots + ms))
    (k : mj_G p l e R s m args below meth c ct D A Q ads0 c0 s0 (pc + 3) L (v.toList ++ rest) wf) : W p l e R s m args below meth c H locs cells slots Q (F0 m pc ls rst) := by
  have hsub : ∀ q, va_A ws H.size q → A q := va_free hD hS hA (List.range ws.length) (mj_rng ws)
  intro T hT Y
  rcases hr T hT Y with ⟨v9, st₀, t, T', L', e0, X', hL, e1, e2, ⟨⟨v1, rv, ws', hv, ho, hsr, hP', hD', hw', hpre⟩, hFr⟩, hst⟩ | ⟨q, st₀, t, T', L', E, ce, e0, X', hL, e1, e2, ⟨⟨e', ws', hv, -⟩, -⟩, -⟩
  · cases hv
    cases ho
    obtain ⟨k1, k2, k3⟩ := vx_keep e0 e1 hS (fun q _ h => hsub q h) hsub hL hFr
    have hal : t.vm.Alike s.vm := by rw [← e2]; exact X'.warmed.alike.symm
    have hS9 : mj_S s c ct D A ads0 c0 s0 L (v.toList ++ rest) wf ws' T'.heap (locs ++ L') (cells + mc) (slots + ms) ls (v9.toList ++ rrest) := by
      refine ⟨by rw [e1]; exact hP', hD'.weaken (fun _ _ _ h => hsub _ h), k3, mj_wr_moved hal hw', mj_pre_tr hp hpre, mj_lr_mono hpre hl, ?_, hn, h1, h2⟩
      have h9 := mj_sr_mono hpre hrest
      simp only [mj_sr, List.map_append] at hsr h9 ⊢
      rw [hsr, h9]
    obtain ⟨t2, a1, b1⟩ := k ws' T'.heap (locs ++ L') (cells + mc) (slots + ms) ls _ hS9 T' rfl X'
    exact ⟨t2, hst t2 a1, b1⟩
  · cases hv
/-- behind the call: it threw -/
theorem mj_afterX {ws : va_W} {H : Heap} {locs : List Loc} {cells slots : Nat} {ls : Array Slot} {rst rrest : List Value} {a : Array Value} {en : Nat}
    (hr : vx_Run p l e R s m args below meth c H locs cells slots mc ms (F0 m pc ls rst) rrest (mj_Qc ct D (va_A ws H.size) (ws.map Prod.fst) (.inr en) wf a) (mj_XC ct D (va_A ws H.size) (ws.map Prod.fst) (.inr en) wf) (va_A ws H.size))
    (hD : va_D A ws) (hS : va_S A s.heap H locs) (hA : ∀ q, s.heap.size ≤ q → A q) (hp : mj_pre ads0 (ws.map Prod.fst)) (hl : mj_lr ct (ws.map Prod.fst) L ls) (hn : L.length = c.maxLocals) (h1 : wf.2.1 = c0 + (cells + mc)) (h2 : wf.2.2 = s0 + (slots + ms))
    (k : ∀ (ws' : va_W) (H' : Heap) (locs' : List Loc) (ce : Cell) (q : Addr), mj_S s c ct D A ads0 c0 s0 L [] wf ws' H' locs' (cells + mc) (slots + ms) ls [] → en < 2 → H'[q]? = some ce → ce.vm = .none → s.vm.findClass (mj_exn en) = some ce.cls → vx_W p l e R s m args below meth c H' locs' (cells + mc) (slots + ms) Q (F0 m pc ls rrest) q) : W p l e R s m args below meth c H locs cells slots Q (F0 m pc ls rst) := by
  have hsub : ∀ q, va_A ws H.size q → A q := va_free hD hS hA (List.range ws.length) (mj_rng ws)
  intro T hT Y
  rcases hr T hT Y with ⟨v9, st₀, t, T', L', e0, X', hL, e1, e2, ⟨⟨v1, rv, ws', hv, -⟩, -⟩, -⟩ | ⟨q, st₀, t, T', L', E, ce, e0, X', hL, e1, e2, ⟨⟨e', ws', hv, he2, hE, hP', hD', hw', hpre⟩, hFr⟩, hce, hcv, hcl, hst⟩
  · cases hv
  · cases hv
    subst hE
    obtain ⟨k1, k2, k3⟩ := vx_keep e0 e1 hS (fun q _ h => hsub q h) hsub hL hFr
    have hal : t.vm.Alike s.vm := by rw [← e2]; exact X'.warmed.alike.symm
    obtain ⟨t2, a1, b1⟩ := k ws' T'.heap (locs ++ L') ce q ⟨by rw [e1]; exact hP', hD'.weaken (fun _ _ _ h => hsub _ h), k3, mj_wr_moved hal hw', mj_pre_tr hp hpre, mj_lr_mono hpre hl, rfl, hn, h1, h2⟩ he2 (by rw [e1]; exact hce) hcv hcl T' rfl X'
    exact ⟨t2, hst.trans a1, b1⟩
/-- what a caller hands over -/
theorem mj_pre_of {ws : va_W} {H : Heap} {locs : List Loc} {Bs : List Value} (C : mj_Cx p l R s m args meth c ct X D A M d) (hP : va_P D vwCl ws H) (hD : va_D A ws) (hS : va_S A s.heap H locs) (hw : mj_wr ct w.1 ws s) : ∀ U : State, U.heap = H → s.WarmedH U.vm → mj_Pc ct X D ws w H.size Bs Bs.toArray U := by
  intro U hU hW
  have hsub : ∀ q, va_A ws H.size q → A q := va_free hD hS C.2.2.2.2.2.1 (List.range ws.length) (mj_rng ws)
  exact ⟨rfl, by rw [hU], by rw [hU]; exact hP, va_K.moved hW.alike C.2.2.2.2.2.2.1, hD.self, mj_wr_moved hW.alike hw, mj_CF_to hW (by rw [hU]; exact hS.2.1) hsub C.2.2.2.2.1⟩
theorem mj_good {w : Cond} (h : w ∈ mj_tbl) : w ∈ mj_tbl ∧ ((w.onTables && w.keeps) = true ∨ ∃ ty, w = .arrayClass ty) := ⟨h, good_of_word (List.mem_filter.mp h).2⟩
theorem mj_goodIn {ws : List Cond} (h : ∀ w ∈ ws, w ∈ mj_tbl) : GoodIn mj_tbl ws := fun w hw => mj_good (h w hw)
theorem mj_goodZ (h : mj_cw Z ∈ mj_tbl) : GoodIn mj_tbl (mj_cw Z :: mj_tbl) := by
  intro w hw
  rcases List.mem_cons.mp hw with h1 | h1
  · subst h1; exact mj_good h
  · exact mj_good h1
/-- the room that a callee asks -/
theorem mj_rooms (hR : d + 1 + 10 ≤ R.frames ∧ 64 * (d + 1) + 400 ≤ R.locals) (hmax : Z.2.2.1 ≤ 40) : (mj_room d mc ms).frames + 1 ≤ R.frames ∧ 8 + (Z.2.2.1 + 11) + (mj_room d mc ms).locals ≤ R.locals := by
  obtain ⟨h1, h2⟩ := hR
  generalize Z.2.2.1 = n at hmax ⊢
  generalize R.frames = a at h1 ⊢
  generalize R.locals = b at h2 ⊢
  exact ⟨mj_rm1 h1, mj_rm2 hmax h2⟩
/-- a call without a receiver, by a plain link -/
theorem mj_runS {ix : Nat} {ws : va_W} {H : Heap} {locs : List Loc} {cells slots : Nat} {ls : Array Slot} {Bs rrest : List Value} (C : mj_Cx p l R s m args meth c ct X D A M (d + 1)) (hmok : mj_mok Z) (hlink : Cond.methodLink (mj_cls M.2.2.2.2.2.1) ix Z.1 ∈ mj_tbl) (hstat : Cond.static Z.1 ∈ mj_tbl) (hd : decode M.2.1 pc = .ok (.invokestatic ix, 3))
    (hM : vx_Met l Z.1 (mj_cw Z :: mj_tbl) (mj_room d mc ms) (mj_Pc ct X D ws w H.size Bs) (mj_Qc ct D (va_A ws H.size) (ws.map Prod.fst) out wf) (mj_XC ct D (va_A ws H.size) (ws.map Prod.fst) out wf) mc ms (va_A ws H.size))
    (hP : va_P D vwCl ws H) (hD : va_D A ws) (hS : va_S A s.heap H locs) (hw : mj_wr ct w.1 ws s) (hsz : ls.size = c.maxLocals) (hBs : Bs.length = Z.2.2.2.2.1) (hcat : (rrest.map fun v => v.category).sum ≤ 8) (hcap : cells + mc ≤ R.cells ∧ slots + ms ≤ R.slots) :
    vx_Run p l e R s m args below meth c H locs cells slots mc ms (F0 m pc ls (Bs.reverse ++ rrest)) rrest (mj_Qc ct D (va_A ws H.size) (ws.map Prod.fst) out wf Bs.toArray) (mj_XC ct D (va_A ws H.size) (ws.map Prod.fst) out wf) (va_A ws H.size) := by
  obtain ⟨hcw, hcls, hini, hnm, hplain, hmax, hinit⟩ := hmok
  obtain ⟨hx, hb, hown, hts, hF, hA, hK, -, -, -, -, -, hR, hml⟩ := id C
  have hroom := mj_rooms (mc := mc) (ms := ms) hR hmax
  have hin3 : ∀ w ∈ va_wsS (mj_cls M.2.2.2.2.2.1) ix Z.1 (mj_cw Z :: mj_tbl), w ∈ mj_tbl := by
    intro w hw
    simp only [va_wsS, List.mem_append, List.mem_cons, List.not_mem_nil, or_false] at hw
    rcases hw with (rfl | rfl | rfl) | rfl | hw
    · exact hlink
    · exact hstat
    · exact hini
    · exact hcw
    · exact hw
  cases hhh : Z.2.2.2.2.2.2.2 with
  | nil =>
    have hcode : mj_cw Z = Cond.code Z.1 Z.2.1 Z.2.2.1 Z.2.2.2.1 := by simp only [mj_cw, hhh]
    exact vx_runS (Ts := mj_tbl) ⟨hx, hb, rfl, hown, hts⟩ hM (va_cwS (bytes := Z.2.1) (maxL := Z.2.2.1) (ret := Z.2.2.2.1) (ws' := mj_tbl) Z.2.2.2.2.1 hts (mj_goodIn hin3) (by rw [hcode]) rfl rfl hnm hroom) ⟨mj_Pc_blind, mj_pre_of C hP hD hS hw⟩ rfl hBs hsz rfl (lv_room hcat) hd hcap
  | cons a t =>
    have hcode : mj_cw Z = Cond.codeWith Z.1 Z.2.1 Z.2.2.1 Z.2.2.2.1 (a :: t) := by simp only [mj_cw, hhh]
    exact vx_runSX (Ts := mj_tbl) (hh := a :: t) ⟨hx, hb, rfl, hown, hts⟩ hM (vx_cwSW (bytes := Z.2.1) (maxL := Z.2.2.1) (ret := Z.2.2.2.1) (ws' := mj_tbl) Z.2.2.2.2.1 hts (mj_goodIn hin3) (by rw [hcode]) rfl rfl hnm hroom) ⟨mj_Pc_blind, mj_pre_of C hP hD hS hw⟩ rfl hBs hsz rfl (lv_room hcat) hd hcap
/-- .. by a nest mate's link -/
theorem mj_runSN {ix : Nat} {ws : va_W} {H : Heap} {locs : List Loc} {cells slots : Nat} {ls : Array Slot} {Bs rrest : List Value} (C : mj_Cx p l R s m args meth c ct X D A M (d + 1)) (hmok : mj_mok Z) (hhh : Z.2.2.2.2.2.2.2 = []) (hlink : Cond.methodLinkNest (mj_cls M.2.2.2.2.2.1) ix Z.1 "WivesQuarrels" ∈ mj_nest) (hstat : Cond.static Z.1 ∈ mj_tbl) (hd : decode M.2.1 pc = .ok (.invokestatic ix, 3))
    (hM : vx_Met l Z.1 (mj_cw Z :: mj_tbl) (mj_room d mc ms) (mj_Pc ct X D ws w H.size Bs) (mj_Qc ct D (va_A ws H.size) (ws.map Prod.fst) out wf) (mj_XC ct D (va_A ws H.size) (ws.map Prod.fst) out wf) mc ms (va_A ws H.size))
    (hP : va_P D vwCl ws H) (hD : va_D A ws) (hS : va_S A s.heap H locs) (hw : mj_wr ct w.1 ws s) (hsz : ls.size = c.maxLocals) (hBs : Bs.length = Z.2.2.2.2.1) (hcat : (rrest.map fun v => v.category).sum ≤ 8) (hcap : cells + mc ≤ R.cells ∧ slots + ms ≤ R.slots) :
    vx_Run p l e R s m args below meth c H locs cells slots mc ms (F0 m pc ls (Bs.reverse ++ rrest)) rrest (mj_Qc ct D (va_A ws H.size) (ws.map Prod.fst) out wf Bs.toArray) (mj_XC ct D (va_A ws H.size) (ws.map Prod.fst) out wf) (va_A ws H.size) := by
  obtain ⟨hcw, hcls, hini, hnm, hplain, hmax, hinit⟩ := hmok
  obtain ⟨hx, hb, hown, hts, hF, hA, hK, -, -, -, -, -, hR, hml⟩ := id C
  have hcode : mj_cw Z = Cond.code Z.1 Z.2.1 Z.2.2.1 Z.2.2.2.1 := by simp only [mj_cw, hhh]
  have hroom := mj_rooms (mc := mc) (ms := ms) hR hmax
  exact vx_runSN (Ts := mj_tbl) ⟨hx, hb, rfl, hown, hts⟩ hM ⟨va_cnB (bytes := Z.2.1) (maxL := Z.2.2.1) (ret := Z.2.2.2.1) (ws' := mj_tbl) Z.2.2.2.2.1 hts (mj_goodZ hcw) (by rw [hcode]) rfl rfl (hF.2.1 _ hlink) (hts _ hini) hnm hroom, hts _ hstat, trivial⟩ ⟨mj_Pc_blind, mj_pre_of C hP hD hS hw⟩ rfl hBs hsz rfl (lv_room hcat) hd hcap
/-- a call by a receiver -/
theorem mj_runV {ix b : Nat} {ws : va_W} {H : Heap} {locs : List Loc} {cells slots : Nat} {ls : Array Slot} {Bs rrest : List Value} (C : mj_Cx p l R s m args meth c ct X D A M (d + 1)) (hmok : mj_mok Z) (hhh : Z.2.2.2.2.2.2.2 = []) (hlink : Cond.methodLink (mj_cls M.2.2.2.2.2.1) ix Z.1 ∈ mj_tbl) (hinst : Cond.instanceMethod Z.1 ∈ mj_tbl) (hsel : Cond.selects Z.1.cls Z.1 Z.1 ∈ mj_tbl) (hd : decode M.2.1 pc = .ok (.invokevirtual ix, 3))
    (hrecv : ∃ cell : Cell, H[b]? = some cell ∧ cell.vm.isStatics = false ∧ s.vm.findClass Z.1.cls = some cell.cls)
    (hM : vx_Met l Z.1 (mj_cw Z :: mj_tbl) (mj_room d mc ms) (mj_Pc ct X D ws w H.size (.ref b :: Bs)) (mj_Qc ct D (va_A ws H.size) (ws.map Prod.fst) out wf) (mj_XC ct D (va_A ws H.size) (ws.map Prod.fst) out wf) mc ms (va_A ws H.size))
    (hP : va_P D vwCl ws H) (hD : va_D A ws) (hS : va_S A s.heap H locs) (hw : mj_wr ct w.1 ws s) (hsz : ls.size = c.maxLocals) (hBs : Bs.length = Z.2.2.2.2.1) (hcat : (rrest.map fun v => v.category).sum ≤ 8) (hcap : cells + mc ≤ R.cells ∧ slots + ms ≤ R.slots) :
    vx_Run p l e R s m args below meth c H locs cells slots mc ms (F0 m pc ls (Bs.reverse ++ .ref b :: rrest)) rrest (mj_Qc ct D (va_A ws H.size) (ws.map Prod.fst) out wf (.ref b :: Bs).toArray) (mj_XC ct D (va_A ws H.size) (ws.map Prod.fst) out wf) (va_A ws H.size) := by
  obtain ⟨hcw, hcls, hini, hnm, hplain, hmax, hinit⟩ := hmok
  obtain ⟨hx, hb, hown, hts, hF, hA, hK, -, -, -, -, -, hR, hml⟩ := id C
  have hcode : mj_cw Z = Cond.code Z.1 Z.2.1 Z.2.2.1 Z.2.2.2.1 := by simp only [mj_cw, hhh]
  have hroom := mj_rooms (mc := mc) (ms := ms) hR hmax
  have hin4 : ∀ w ∈ wsV (mj_cls M.2.2.2.2.2.1) ix Z.1.cls Z.1 (mj_cw Z :: mj_tbl), w ∈ mj_tbl := by
    intro w hw
    simp only [wsV, List.mem_append, List.mem_cons, List.not_mem_nil, or_false] at hw
    rcases hw with (rfl | rfl | rfl | rfl) | rfl | hw
    · exact hlink
    · exact hinst
    · exact hsel
    · exact hini
    · exact hcw
    · exact hw
  exact vx_runV (Ts := mj_tbl) ⟨hx, hb, rfl, hown, hts⟩ hM (cwV (bytes := Z.2.1) (maxL := Z.2.2.1) (ret := Z.2.2.2.1) (ws' := mj_tbl) Z.2.2.2.2.1 hts (mj_goodIn hin4) (by rw [hcode]) rfl rfl ⟨rfl, hnm⟩ hroom) ⟨mj_Pc_blind, hrecv, mj_pre_of C hP hD hS hw⟩ rfl hBs hsz rfl (lv_room hcat) hd hcap
/-- a constructor, by a plain link -/
theorem mj_runI {ix b : Nat} {ws : va_W} {H : Heap} {locs : List Loc} {cells slots : Nat} {ls : Array Slot} {Bs rrest : List Value} (C : mj_Cx p l R s m args meth c ct X D A M (d + 1)) (hmok : mj_mok Z) (hhh : Z.2.2.2.2.2.2.2 = []) (hret : Z.2.2.2.1 = none) (hname : Z.1.name = "<init>") (hlink : Cond.methodLink (mj_cls M.2.2.2.2.2.1) ix Z.1 ∈ mj_tbl) (hinst : Cond.instanceMethod Z.1 ∈ mj_tbl) (hd : decode M.2.1 pc = .ok (.invokespecial ix, 3))
    (hM : vx_Met l Z.1 (mj_cw Z :: mj_tbl) (mj_room d mc ms) (mj_Pc ct X D ws w H.size (.ref b :: Bs)) (mj_Qc ct D (va_A ws H.size) (ws.map Prod.fst) out wf) (mj_XC ct D (va_A ws H.size) (ws.map Prod.fst) out wf) mc ms (va_A ws H.size))
    (hP : va_P D vwCl ws H) (hD : va_D A ws) (hS : va_S A s.heap H locs) (hw : mj_wr ct w.1 ws s) (hsz : ls.size = c.maxLocals) (hBs : Bs.length = Z.2.2.2.2.1) (hcat : (rrest.map fun v => v.category).sum ≤ 8) (hcap : cells + mc ≤ R.cells ∧ slots + ms ≤ R.slots) :
    vx_Run p l e R s m args below meth c H locs cells slots mc ms (F0 m pc ls (Bs.reverse ++ .ref b :: rrest)) rrest (mj_Qc ct D (va_A ws H.size) (ws.map Prod.fst) out wf (.ref b :: Bs).toArray) (mj_XC ct D (va_A ws H.size) (ws.map Prod.fst) out wf) (va_A ws H.size) := by
  obtain ⟨hcw, hcls, hini, hnm, hplain, hmax, hinit⟩ := hmok
  obtain ⟨hx, hb, hown, hts, hF, hA, hK, -, -, -, -, -, hR, hml⟩ := id C
  have hcode : mj_cw Z = Cond.code Z.1 Z.2.1 Z.2.2.1 none := by simp only [mj_cw, hhh, hret]
  have hroom := mj_rooms (mc := mc) (ms := ms) hR hmax
  exact vx_runI (Ts := mj_tbl) ⟨hx, hb, rfl, hown, hts⟩ hM (cwI (bytes := Z.2.1) (maxL := Z.2.2.1) (ws' := mj_tbl) Z.2.2.2.2.1 hts (mj_goodZ hcw) (by rw [hcode]) rfl rfl (hts _ hini) (hts _ hlink) (hts _ hinst) hname hnm hroom) ⟨mj_Pc_blind, mj_pre_of C hP hD hS hw⟩ rfl hBs hsz rfl (lv_room hcat) hd hcap
/-- .. by a nest mate's link -/
theorem mj_runIN {ix b : Nat} {ws : va_W} {H : Heap} {locs : List Loc} {cells slots : Nat} {ls : Array Slot} {Bs rrest : List Value} (C : mj_Cx p l R s m args meth c ct X D A M (d + 1)) (hmok : mj_mok Z) (hhh : Z.2.2.2.2.2.2.2 = []) (hret : Z.2.2.2.1 = none) (hname : Z.1.name = "<init>") (hlink : Cond.methodLinkNest (mj_cls M.2.2.2.2.2.1) ix Z.1 "WivesQuarrels" ∈ mj_nest) (hinst : Cond.instanceMethod Z.1 ∈ mj_tbl) (hd : decode M.2.1 pc = .ok (.invokespecial ix, 3))
    (hM : vx_Met l Z.1 (mj_cw Z :: mj_tbl) (mj_room d mc ms) (mj_Pc ct X D ws w H.size (.ref b :: Bs)) (mj_Qc ct D (va_A ws H.size) (ws.map Prod.fst) out wf) (mj_XC ct D (va_A ws H.size) (ws.map Prod.fst) out wf) mc ms (va_A ws H.size))
    (hP : va_P D vwCl ws H) (hD : va_D A ws) (hS : va_S A s.heap H locs) (hw : mj_wr ct w.1 ws s) (hsz : ls.size = c.maxLocals) (hBs : Bs.length = Z.2.2.2.2.1) (hcat : (rrest.map fun v => v.category).sum ≤ 8) (hcap : cells + mc ≤ R.cells ∧ slots + ms ≤ R.slots) :
    vx_Run p l e R s m args below meth c H locs cells slots mc ms (F0 m pc ls (Bs.reverse ++ .ref b :: rrest)) rrest (mj_Qc ct D (va_A ws H.size) (ws.map Prod.fst) out wf (.ref b :: Bs).toArray) (mj_XC ct D (va_A ws H.size) (ws.map Prod.fst) out wf) (va_A ws H.size) := by
  obtain ⟨hcw, hcls, hini, hnm, hplain, hmax, hinit⟩ := hmok
  obtain ⟨hx, hb, hown, hts, hF, hA, hK, -, -, -, -, -, hR, hml⟩ := id C
  have hcode : mj_cw Z = Cond.code Z.1 Z.2.1 Z.2.2.1 none := by simp only [mj_cw, hhh, hret]
  have hroom := mj_rooms (mc := mc) (ms := ms) hR hmax
  exact vx_runIN (Ts := mj_tbl) ⟨hx, hb, rfl, hown, hts⟩ hM ⟨va_cnB (bytes := Z.2.1) (maxL := Z.2.2.1) (ret := none) (ws' := mj_tbl) Z.2.2.2.2.1 hts (mj_goodZ hcw) (by rw [hcode]) rfl rfl (hF.2.1 _ hlink) (hts _ hini) hnm hroom, hname, hts _ hinst⟩ ⟨mj_Pc_blind, mj_pre_of C hP hD hS hw⟩ rfl hBs hsz rfl (lv_room hcat) hd hcap
end MJK
