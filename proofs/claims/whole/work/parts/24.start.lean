/-! the law's entry, over the small machine -/
def R_law : String := "WivesQuarrelsLaw"
theorem mj_CF_init {s : State} {b L : Nat} {xs : Nat → Int32} (hts : ∀ w ∈ lw_tbl, w.before #[Value.ref b] s = true) (hX : va_X b L xs s s.heap) (hbl : b < s.heap.size) (hL : L ≤ 3072) (hgv : mj_gn.before #[Value.ref b] s = true) : ∃ ct, mj_CF ct (L, xs) (fun q => s.heap.size ≤ q) s s.heap ∧ ct 1000002 = some (.ref b) := by
  have hs := flat_of_before _ hgv
  have hA : ∀ a : Nat, a < s.heap.size → ¬ (fun q => s.heap.size ≤ q) a := fun a h => Nat.not_le.mpr h
  obtain ⟨aL, evL, tL⟩ := va_Tof (tm := .static "WivesQuarrels" "LESSER" "[I") (ty := .int) (N := 28) (f := fun j => .int (mj_les.getD j 0)) (by decide) (hs _ mj_g_arr.1) (va_eqt (hs _ mj_g_arr.2.2.1)) (fun j hj => va_eqt (hs _ (mj_g_les j hj))) hA
  obtain ⟨aG, evG, tG⟩ := va_Tof (tm := .static "WivesQuarrels" "GREATER" "[I") (ty := .int) (N := 28) (f := fun j => .int (mj_gre.getD j 0)) (by decide) (hs _ mj_g_arr.2.1) (va_eqt (hs _ mj_g_arr.2.2.2)) (fun j hj => va_eqt (hs _ (mj_g_gre j hj))) hA
  have zL := va_Zof (hts _ mj_g_ls.1) (hts _ mj_g_in.1) evL hA
  have zG := va_Zof (hts _ mj_g_ls.2.1) (hts _ mj_g_in.1) evG hA
  have zC := va_Zof (hts _ mj_g_ls.2.2.1) (hts _ mj_g_in.2.1) (va_eqi (hs _ mj_g_one.1)) hA
  have zF := va_Zqof (hts _ mj_g_ls.2.2.2.1) (hts _ mj_g_in.2.2.1) (hs _ mj_g_one.2.1) hA
  have zU := vx_Zqof (hts _ mj_g_ls.2.2.2.2.1) (hts _ mj_g_in.2.2.2) (hs _ mj_g_one.2.2.1) hA
  have zS := vx_Zqof (hts _ mj_g_ls.2.2.2.2.2) (hts _ mj_g_in.2.2.2) (hs _ mj_g_one.2.2.2.1) hA
  obtain ⟨adK, adV, hK, hev⟩ := vk_Sof (N := 23) (tm := mj_tm) (len := mj_str.map List.length) (byt := mj_str) mj_g_len (fun i hi => hs _ (mj_g_s1 i hi).1) (fun i hi => hs _ (mj_g_s1 i hi).2.1) (fun i hi => hs _ (mj_g_s1 i hi).2.2.1) (fun i hi => hs _ (mj_g_s1 i hi).2.2.2) (fun i hi j hj => hs _ (mj_g_s2 i hi j hj)) (fun i j hi hj hne => (mj_g_s3 i j hi hj hne).elim (fun h => Or.inl (hs _ h)) (fun h => Or.inr (hs _ h))) hA
  obtain ⟨vF, hvF, hvF2⟩ : ∃ v, (v = .null ∨ ∃ a, v = .ref a) ∧ va_Z "jdk/internal/util/Preconditions" "SIOOBE_FORMATTER" "Ljava/util/function/BiFunction;" v (fun q => s.heap.size ≤ q) s s.heap := by
    rcases zF with h | ⟨t, h⟩
    · exact ⟨.null, Or.inl rfl, h⟩
    · exact ⟨.ref t, Or.inr ⟨t, rfl⟩, h⟩
  have tX : va_T .int b L (fun j => .int (xs j)) (fun q => s.heap.size ≤ q) s s.heap := by
    obtain ⟨scr, x1, x2, x3, x4, x5⟩ := hX
    exact ⟨scr, x1, x2, x3, Nat.le_of_eq x4.symm, by rw [x4], x5, hA b hbl⟩
  refine ⟨fun k => if k = 1000000 then some (.ref aL) else if k = 1000001 then some (.ref aG) else if k = 1000002 then some (.ref b) else if k = 1000300 then some vF else if 1000100 ≤ k ∧ k < 1000123 then some (.ref (adK (k - 1000100))) else if 1000200 ≤ k ∧ k < 1000223 then some (.ref (adV (k - 1000200))) else none, ⟨?_, ?_, ⟨zU, zS⟩, ?_, ?_, zC, ?_, ?_, va_AO.of (hts _ mj_g_ao), va_Nc.of (hs _ mj_g_one.2.2.2.2.1), va_Nc.of (hs _ mj_g_one.2.2.2.2.2)⟩, rfl⟩
  · intro k v hk
    dsimp only at hk
    split at hk
    · cases hk; exact Or.inr ⟨_, rfl⟩
    split at hk
    · cases hk; exact Or.inr ⟨_, rfl⟩
    split at hk
    · cases hk; exact Or.inr ⟨_, rfl⟩
    split at hk
    · next hk3 =>
      cases hk
      rcases hvF with h | h
      · exact Or.inl ⟨h, hk3⟩
      · exact Or.inr h
    split at hk
    · cases hk; exact Or.inr ⟨_, rfl⟩
    split at hk
    · cases hk; exact Or.inr ⟨_, rfl⟩
    cases hk
  · intro w hw
    exact va_Nw.of (mj_xd w hw) (hts w (List.mem_append_right _ (mj_nest_in w hw)))
  · intro k ty n f hk
    unfold mj_ka at hk
    split at hk
    · next h => subst h; cases hk; exact ⟨aL, rfl, tL⟩
    split at hk
    · next h => subst h; cases hk; exact ⟨aG, rfl, tG⟩
    split at hk
    · next h => subst h; cases hk; exact ⟨b, rfl, tX⟩
    next n1 n2 n3 =>
    split at hk
    · cases hk
    next hk2 =>
    split at hk
    · next bs hbs =>
      cases hk
      have hi : k - 1000200 < 23 := (List.getElem?_eq_some_iff.mp hbs).1
      have hT := (hK.1 (k - 1000200) hi).2.2.2
      have e1 : (mj_str.map List.length).getD (k - 1000200) 0 = bs.length := by
        rw [List.getD_eq_getElem?_getD, List.getElem?_map, hbs]; rfl
      have e2 : mj_str.getD (k - 1000200) [] = bs := by
        rw [List.getD_eq_getElem?_getD, hbs]; rfl
      rw [e1, e2] at hT
      refine ⟨adV (k - 1000200), ?_, hT⟩
      dsimp only
      rw [if_neg n1, if_neg n2, if_neg n3, if_neg (by omega), if_neg (by omega), if_pos (by omega)]
    · cases hk
  · intro k hk
    rcases hk with rfl | rfl | rfl
    · exact ⟨_, rfl, zL⟩
    · exact ⟨_, rfl, zG⟩
    · exact ⟨_, rfl, hvF2⟩
  · intro i hi
    obtain ⟨o1, o2, o3, o4⟩ := hK.1 i hi
    refine ⟨adK i, adV i, ?_, ?_, o1, o2, o3⟩
    · dsimp only
      rw [if_neg (by omega), if_neg (by omega), if_neg (by omega), if_neg (by omega), if_pos (by omega), show 1000100 + i - 1000100 = i by omega]
    · dsimp only
      rw [if_neg (by omega), if_neg (by omega), if_neg (by omega), if_neg (by omega), if_neg (by omega), if_pos (by omega), show 1000200 + i - 1000200 = i by omega]
  · intro i own ix tx hi
    have hi3 : i < 23 := (List.getElem?_eq_some_iff.mp hi).1
    have hg : mj_sts.getD i ("", 0, "") = (own, ix, tx) := by rw [List.getD_eq_getElem?_getD, hi]; rfl
    refine ⟨adK i, ?_, ?_⟩
    · dsimp only
      rw [if_neg (by omega), if_neg (by omega), if_neg (by omega), if_neg (by omega), if_pos (by omega), show 1000100 + i - 1000100 = i by omega]
    · have hsr := hts _ (mj_g_sr _ (List.mem_of_getElem? hi))
      have he := hev i hi3
      simp only [mj_tm, hg] at he
      exact vk_R.of hsr he
theorem mj_D_init {s : State} {b : Nat} (hts : ∀ w ∈ lw_tbl, w.before #[Value.ref b] s = true) : ∃ D : va_G, va_K D vwCl [] s := by
  have hw : ∀ w ∈ mj_tbl, w.before #[Value.ref b] s = true := fun w h => hts w (List.mem_filter.mp h).1
  have key : ∀ ci : Nat, ∃ q : ClassId × (Nat → Nat), ci < 10 → u_Kn s (mj_cls ci) (mj_T ci) (mj_N ci) q.1 q.2 := by
    intro ci
    by_cases hci : ci < 10
    · obtain ⟨cC, iS, h⟩ := u_known (C := mj_cls ci) (T := mj_T ci) (N := mj_N ci) (n := mj_N ci) hw (mj_fl hci) (hw _ (mj_inst hci).1)
      exact ⟨(cC, iS), fun _ => h⟩
    · exact ⟨(0, fun _ => 0), fun h => absurd h hci⟩
  refine ⟨(fun ci => (Classical.choose (key ci)).1, fun ci => (Classical.choose (key ci)).2), ?_, fun k q h => by simp at h⟩
  intro ci q hq
  have hci : ci < 10 := (List.getElem?_eq_some_iff.mp hq).1
  rw [mj_vw hci] at hq
  cases hq
  exact Classical.choose_spec (key ci) hci
def lw_P (b : Addr) (xs : List Int32) (args : Array Value) (s : State) : Prop := args = #[.ref b] ∧ s.IntsAt b xs ∧ xs.length ≤ 3072 ∧ (Jvm.Cond.and given_1 narrow_1).before args s = true
def lw_Q (_ : Array Value) (s : State) (o : Outcome) (t : State) : Prop := o = .returned (some (.int 1)) ∧ Framed s o t [] 601024 7293034
def lw_Z (below : List Frame) (a : Array Value) (s : State) : State → Prop := fun t => ∃ o, t.status = .running ∧ Ended t below o ∧ lw_Q a s o t
theorem lw_ret {p : Program} {l : Launch} {e : Env} {s : State} {m : MethodId} {below : List Frame} {meth : Method} {c : Code} {b : Nat} (hx : p.tables.exec = Jvm.exec) (hb : c.code = code) (hr : meth.sig.returnType = ret) (hlocks : meth.locks = false) {pc : Nat} {H : Heap} {ls : Array Slot} (hdg : decode code pc = .ok (.ireturn, 1)) : W p l e room_1 s m #[Value.ref b] below meth c H [] 601024 7293034 (lw_Z below #[Value.ref b] s) (F0 m pc ls [.int 1]) := by
  intro T hT X
  obtain ⟨fs, hret, hrun, hended, hW, hframe⟩ := X.leave (v := some (.int 1)) (hlocks := hlocks) (fun h => by rw [hr] at h; cases h)
  have hmeth' : T.vm.method? m = some meth := X.method'
  refine ⟨T.setFrames fs, ?_, .returned (some (.int 1)), hrun, hended, rfl, ⟨_, rfl⟩, hW, hframe⟩
  jvm_step X.here [X.here.top, hx, hb, hdg, hmeth', hr, ret, narrow_b1]
  (try refine ⟨rfl, ?_⟩); (try refine ⟨rfl, ?_⟩)
  first | (intro acts; rw [hret _ acts rfl rfl rfl]) | rw [hret _ _ rfl rfl rfl]
  exact Steps.refl _
def lw_At (p : Program) (s : State) (m : MethodId) (meth : Method) (c : Code) (b L : Nat) (xs : Nat → Int32) : Prop :=
  p.tables.exec = Jvm.exec ∧ c.code = code ∧ meth.sig.returnType = ret ∧ c.maxLocals = 7 ∧ s.vm.findClass R_law = some m.cls ∧ (∀ w ∈ lw_tbl, w.before #[Value.ref b] s = true) ∧ va_X b L xs s s.heap ∧ b < s.heap.size ∧ meth.locks = false ∧ (Jvm.Cond.and given_1 narrow_1).before #[Value.ref b] s = true ∧ c.exceptionTable.toList = []
/-- THE LAW, from its entry -/
theorem whole_start (hg : mj_Goal) {p : Program} {e : Env} {s : State} {m : MethodId} {below : List Frame} {meth : Method} {c : Code} (l : Launch) (hflags : l.flags = flags0) {b L : Nat} {xs : Nat → Int32} (hL : L ≤ 3072) (C0 : lw_At p s m meth c b L xs) : W p l e room_1 s m #[Value.ref b] below meth c s.heap [] 0 0 (lw_Z below #[Value.ref b] s) (entryFrame m ([Value.ref b] : List Value).toArray 7) := by
  obtain ⟨hx, hb, hr, hml, hown, hts, hX, hbl, hlocks, hgv, htab⟩ := C0
  obtain ⟨ct, hF, hctb⟩ := mj_CF_init hts hX hbl hL hgv
  obtain ⟨D, hK⟩ := mj_D_init hts
  obtain ⟨n, wf, hrun, hw1, hw2⟩ := hg (L, xs) hL
  have hst : l.stackTraces = false := by simp only [Launch.stackTraces, hflags]; decide
  have hC : mj_Cx p l room_1 s m #[Value.ref b] meth c ct (L, xs) D (fun q => s.heap.size ≤ q) mj_lawM 900 := ⟨hx, hb, hown, fun w h => hts w (List.mem_filter.mp h).1, hF, fun _ h => h, hK, hr, hlocks, by rw [htab]; rfl, hst, fun h => absurd h (by decide), ⟨by decide, by decide⟩, hml⟩
  have hG := mj_sound hst n 900 _ 0 _ _ _ _ _ hrun mj_lawM mj_law p e room_1 s m #[Value.ref b] below meth c (fun q => s.heap.size ≤ q) (lw_Z below #[Value.ref b] s) [] 0 0 hC ⟨by rw [Nat.zero_add]; exact hw1, by rw [Nat.zero_add]; exact hw2⟩ ?_ (fun en h => nomatch h)
  · have hl := lv_entry ([.ref b]) (n := 7) (Nat.le_of_ble_eq_true rfl)
    rw [lg_entry_eq]
    have hsr : mj_sr ct [] [.ref 1000002] [.ref b] := mj_sr_mk (by simp only [mj_rv]; rw [if_neg (by decide)]; exact hctb) rfl
    exact hG [] s.heap [] 0 0 _ [] ⟨fun k q h => by simp at h, ⟨fun i j p q h => by simp at h, fun k q h => by simp at h⟩, va_S.rf, ⟨rfl, fun k q h => by simp at h⟩, mj_pre_rf _, ⟨_, hl, fun i v hi => by
      have h9 := mj_sl_args hF.1 0 i v hsr (mj_entry_at hi)
      simpa using h9⟩, rfl, hml.symm, rfl, rfl⟩
  · intro pc L' st w i len hd hs
    intro ws H locs cells slots ls rst ⟨hP, hD, hS, hw, hp, hl, hrr, hn, h1, h2⟩
    rcases mj_step_kind hs with rfl | rfl | rfl | ⟨ix, rfl⟩
    · obtain ⟨rfl, hs1⟩ := mj_ifn hs
      unfold mj_iret at hs1
      split at hs1
      · next x =>
        obtain ⟨-, hs2⟩ := mj_ifn hs1
        cases hs2
        obtain ⟨t1, rfl, hr1⟩ := mj_sr_int hrr
        have ht1 := mj_sr_nil hr1
        subst ht1
        refine va_forget hS.2.2 ?_
        refine W.widen (k := 601024) (n := 7293034) (by omega) (by omega) ?_
        exact lw_ret hx hb hr hlocks hd
      · cases hs1
    · obtain ⟨rfl, hs1⟩ := mj_ifn hs
      unfold mj_aret at hs1
      split at hs1
      · obtain ⟨-, hs2⟩ := mj_ifm hs1
        cases hs2
      · cases hs1
    · obtain ⟨rfl, hs1⟩ := mj_ifn hs
      unfold mj_vret at hs1
      split at hs1 <;> cases hs1
    · obtain ⟨rfl, hs1⟩ := mj_ifn hs
      unfold mj_new at hs1
      split at hs1
      · obtain ⟨-, hs2⟩ := mj_ifn hs1
        unfold mj_push at hs2
        obtain ⟨-, hs3⟩ := mj_ifn hs2
        cases hs3
      · obtain ⟨-, hs2⟩ := mj_ifn hs1
        cases hs2
      · cases hs1
