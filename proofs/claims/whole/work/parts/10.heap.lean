/-! the instructions that touch cells -/
section MJH
variable {p : Program} {l : Launch} {e : Env} {R : Room} {s : State} {m : MethodId} {args : Array Value} {below : List Frame} {meth : Method} {c : Code} {ct : Nat → Option Value} {X : mj_X} {D : va_G} {A : Nat → Prop} {Q : State → Prop} {ads0 : List Nat} {c0 s0 d len pc : Nat} {M : mj_M} {L : mj_L} {st : List Value} {w : mj_W} {r : mj_T4}
theorem mj_S_set {ws : va_W} {H1 : Heap} {locs1 : List Loc} {cells slots : Nat} {ls : Array Slot} {rst : List Value} {k a : Nat} {e0 e1 : va_E} {cc : mj_C} (hk : ws[k]? = some (a, e0)) (hw : mj_wr ct w.1 ws s) (hc : mj_cr ct (ws.map Prod.fst) s cc e1) (hp : mj_pre ads0 (ws.map Prod.fst)) (hl : mj_lr ct (ws.map Prod.fst) L ls) (hr : mj_sr ct (ws.map Prod.fst) st rst) (hn : L.length = c.maxLocals) (h1 : w.2.1 = c0 + cells) (h2 : w.2.2 = s0 + slots)
    (hP' : va_P D vwCl (ws.set k (a, e1)) H1) (hD' : va_D A (ws.set k (a, e1))) (hS' : va_S A s.heap H1 locs1) : mj_S s c ct D A ads0 c0 s0 L st (w.1.set k cc, w.2) (ws.set k (a, e1)) H1 locs1 cells slots ls rst := by
  have hads := mj_fst_set ws k a e1 e0 hk
  exact ⟨hP', hD', hS', mj_wr_set hw hk hc, by rw [hads]; exact hp, by rw [hads]; exact hl, by rw [hads]; exact hr, hn, h1, h2⟩
theorem mj_S_push {ws : va_W} {H1 : Heap} {locs : List Loc} {cells slots n : Nat} {ls : Array Slot} {rst : List Value} {q : Nat} {e1 : va_E} {cc : mj_C} (hw : mj_wr ct w.1 ws s) (hc : mj_cr ct (ws.map Prod.fst) s cc e1) (hp : mj_pre ads0 (ws.map Prod.fst)) (hl : mj_lr ct (ws.map Prod.fst) L ls) (hr : mj_sr ct (ws.map Prod.fst) st rst) (hn : L.length = c.maxLocals) (h1 : w.2.1 = c0 + cells) (h2 : w.2.2 = s0 + slots) (hlt : w.1.length < 1000000)
    (hP' : va_P D vwCl (ws ++ [(q, e1)]) H1) (hD' : va_D A (ws ++ [(q, e1)])) (hS' : va_S A s.heap H1 locs) : mj_S s c ct D A ads0 c0 s0 L (.ref w.1.length :: st) (w.1 ++ [cc], w.2.1 + 1, w.2.2 + n) (ws ++ [(q, e1)]) H1 locs (cells + 1) (slots + n) ls (.ref q :: rst) := by
  have hpre : mj_pre (ws.map Prod.fst) ((ws ++ [(q, e1)]).map Prod.fst) := ⟨[q], by simp⟩
  refine ⟨hP', hD', hS', mj_wr_push hw hc, mj_pre_tr hp hpre, mj_lr_mono hpre hl, mj_sr_mk ?_ (mj_sr_mono hpre hr), hn, by simp only [h1]; omega, by simp only [h2]; omega⟩
  simp only [mj_rv, if_pos hlt]
  rw [hw.1]
  simp
theorem mj_fit_ok (hc : mj_okct ct) {ty : FieldType} {v rr : Value} {ads : List Nat} (h : mj_fit ty v = true) (hv : mj_rv ct ads v = some rr) : narrow ty rr = rr ∧ fits ty rr = true := by
  unfold mj_fit at h
  split at h
  · cases hv; exact ⟨rfl, rfl⟩
  · cases hv
    simp only [Bool.or_eq_true, beq_iff_eq] at h
    rcases h with rfl | rfl <;> exact ⟨by decide, by decide⟩
  · obtain ⟨a, rfl⟩ := mj_rv_ref hc hv (by simpa using h)
    exact ⟨rfl, rfl⟩
  · obtain ⟨a, rfl⟩ := mj_rv_ref hc hv (by simpa using h)
    exact ⟨rfl, rfl⟩
  · cases h
theorem mj_in_of {i : Int32} {n : Nat} (h : ¬ (i < 0 ∨ n ≤ i.toNatClampNeg)) : vp_in i n := h
theorem mj_getf_inv {lk : Option (Nat × Nat × Nat)} (h : mj_getf lk pc L st w = some (.inl r)) :
    (∃ ci j k fs v t, lk = some (0, ci, j) ∧ st = .ref k :: t ∧ k < 1000000 ∧ w.1[k]? = some (.inr (ci, fs)) ∧ fs[j]? = some v ∧ r = (pc + 3, L, v :: t, w)) ∨
    (∃ q k t, lk = some (11, q, 0) ∧ st = .ref k :: t ∧ 1000100 ≤ k ∧ k < 1000123 ∧ r = (pc + 3, L, .ref (k + 100) :: t, w)) ∨
    (∃ q k t, lk = some (11, q, 1) ∧ st = .ref k :: t ∧ 1000100 ≤ k ∧ k < 1000123 ∧ r = (pc + 3, L, .int 0 :: t, w)) := by
  unfold mj_getf at h
  split at h
  · obtain ⟨hk, h1⟩ := mj_ifn h
    split at h1
    · next cc fs hw =>
      obtain ⟨hc, h2⟩ := mj_ifn h1
      subst hc
      split at h2
      · next v hv => exact Or.inl ⟨_, _, _, fs, _, _, rfl, rfl, hk, hw, hv, mj_nx_inv h2⟩
      · cases h2
    · cases h1
  · obtain ⟨hk, h⟩ := mj_ifn h
    exact Or.inr (Or.inl ⟨_, _, _, rfl, rfl, hk.1, hk.2, mj_nx_inv h⟩)
  · obtain ⟨hk, h⟩ := mj_ifn h
    exact Or.inr (Or.inr ⟨_, _, _, rfl, rfl, hk.1, hk.2, mj_nx_inv h⟩)
  · cases h
/-- a text, by its reference -/
theorem mj_text (hF : mj_CF ct X A s s.heap) {k : Nat} (h1 : 1000100 ≤ k) (h2 : k < 1000123) {ads : List Nat} {rr : Value} (hr : mj_rv ct ads (.ref k) = some rr) : ∃ a b, rr = .ref a ∧ ct (k + 100) = some (.ref b) ∧ va_O "java/lang/String" a A s s.heap ∧ va_OF "java/lang/String" "coder" "B" (.int 0) a A s s.heap ∧ va_OF "java/lang/String" "value" "[B" (.ref b) a A s s.heap := by
  obtain ⟨a, b, e1, e2, e3, e4, e5⟩ := hF.2.2.2.2.2.2.1 (k - 1000100) (by omega)
  rw [show 1000100 + (k - 1000100) = k by omega] at e1
  rw [show 1000200 + (k - 1000100) = k + 100 by omega] at e2
  simp only [mj_rv, if_neg (show ¬ k < 1000000 by omega), e1] at hr
  cases hr
  exact ⟨a, b, rfl, e2, e3, e4, e5⟩
theorem mj_o_getfield {ix : Nat} (C : mj_Cx p l R s m args meth c ct X D A M d) (hd : decode M.2.1 pc = .ok (.getfield ix, len)) (hs : mj_step X M (.getfield ix) len pc L st w = some (.inl r)) (k : mj_G p l e R s m args below meth c ct D A Q ads0 c0 s0 r.1 r.2.1 r.2.2.1 r.2.2.2) : mj_G p l e R s m args below meth c ct D A Q ads0 c0 s0 pc L st w := by
  obtain ⟨rfl, hs1⟩ := mj_ifn hs
  obtain ⟨hx, hb, hown, hts, hF, hA, hK, -⟩ := id C
  intro ws H locs cells slots ls rst ⟨hP, hD, hS, hw, hp, hl, hr, hn, h1, h2⟩
  rcases mj_getf_inv hs1 with ⟨ci, j, q, fs, v, t, hlk, rfl, hq, hwq, hv, rfl⟩ | ⟨q0, q, t, hlk, rfl, hq1, hq2, rfl⟩ | ⟨q0, q, t, hlk, rfl, hq1, hq2, rfl⟩
  · obtain ⟨hci, hj, hT, hlink⟩ := mj_pool_ok hlk
    obtain ⟨rr, t1, rfl, e1, hr1⟩ := mj_sr_cons hr
    obtain ⟨a, ee, rfl, hk, rs, rfl, hfs⟩ := mj_wr_ref hw hwq hq e1
    obtain ⟨rv, hrv, hvv⟩ := mj_sr_get hfs hv
    exact va_get (D := D) (cl := vwCl) (tys := []) (own := mj_cls M.2.2.2.2.2.1) (ref := mj_cls ci) (C := mj_cls ci) (T := mj_T ci) (N := mj_N ci) hx hb hts (mj_fl hci) hown hK hP q hk (mj_vw hci) j hj (hts _ hlink) (fun x h => by rw [hT] at h; exact h) (v := rv) hrv hd (k ws H locs cells slots ls _ ⟨hP, hD, hS, hw, hp, hl, mj_sr_mk hvv hr1, hn, h1, h2⟩)
  · have hlink := mj_pool_ok hlk
    obtain ⟨rr, t1, rfl, e1, hr1⟩ := mj_sr_cons hr
    obtain ⟨a, b, rfl, e2, e3, e4, e5⟩ := mj_text hF hq1 hq2 e1
    have hq3 : ¬ q + 100 < 1000000 := Nat.not_lt.mpr (Nat.le_trans (by decide) (Nat.le_trans hq1 (Nat.le_add_right q 100)))
    exact vk_getf hx hb e5 hS hown (hts _ hlink) (fun _ h => h) hd (k ws H locs cells slots ls _ ⟨hP, hD, hS, hw, hp, hl, mj_sr_mk (by simp only [mj_rv, if_neg hq3, e2]) hr1, hn, h1, h2⟩)
  · have hlink := mj_pool_ok hlk
    obtain ⟨rr, t1, rfl, e1, hr1⟩ := mj_sr_cons hr
    obtain ⟨a, b, rfl, e2, e3, e4, e5⟩ := mj_text hF hq1 hq2 e1
    exact vk_getf hx hb e4 hS hown (hts _ hlink) (fun _ h => h) hd (k ws H locs cells slots ls _ ⟨hP, hD, hS, hw, hp, hl, mj_sr_mki hr1, hn, h1, h2⟩)
theorem mj_putf_inv {lk : Option (Nat × Nat × Nat)} (h : mj_putf M lk pc L st w = some (.inl r)) :
    ∃ ci j k fs v t, lk = some (0, ci, j) ∧ st = v :: .ref k :: t ∧ k < 1000000 ∧ w.1[k]? = some (.inr (ci, fs)) ∧ (ci < 10 ∧ j < mj_N ci ∧ j < fs.length ∧ mj_fit (mj_ty ci j) v = true ∧ (mj_fin ci j = false ∨ (M.2.2.2.2.2.2.1 = true ∧ M.2.2.2.2.2.1 = ci))) ∧ r = (pc + 3, L, t, (w.1.set k (.inr (ci, fs.set j v)), w.2)) := by
  unfold mj_putf at h
  split at h
  · obtain ⟨hk, h⟩ := mj_ifn h
    split at h
    · next cc fs hw =>
      obtain ⟨⟨hc, hr⟩, h⟩ := mj_ifn h
      subst hc
      exact ⟨_, _, _, fs, _, _, rfl, rfl, hk, hw, hr, mj_nx_inv h⟩
    · cases h
  · cases h
theorem mj_o_putfield {ix : Nat} (C : mj_Cx p l R s m args meth c ct X D A M d) (hd : decode M.2.1 pc = .ok (.putfield ix, len)) (hs : mj_step X M (.putfield ix) len pc L st w = some (.inl r)) (k : mj_G p l e R s m args below meth c ct D A Q ads0 c0 s0 r.1 r.2.1 r.2.2.1 r.2.2.2) : mj_G p l e R s m args below meth c ct D A Q ads0 c0 s0 pc L st w := by
  obtain ⟨rfl, hs1⟩ := mj_ifn hs
  obtain ⟨hx, hb, hown, hts, hF, hA, hK, -, -, -, -, hinit, -⟩ := id C
  intro ws H locs cells slots ls rst ⟨hP, hD, hS, hw, hp, hl, hr, hn, h1, h2⟩
  obtain ⟨ci, j, q, fs, v, t, hlk, rfl, hq, hwq, ⟨hci, hj, hjl, hfit, hfin⟩, rfl⟩ := mj_putf_inv hs1
  obtain ⟨-, -, hT, hlink⟩ := mj_pool_ok hlk
  obtain ⟨rv, t1, rfl, ev, hr1⟩ := mj_sr_cons hr
  obtain ⟨rr, t2, rfl, e1, hr2⟩ := mj_sr_cons hr1
  obtain ⟨a, ee, rfl, hk, rs, rfl, hfs⟩ := mj_wr_ref hw hwq hq e1
  obtain ⟨hn1, hn2⟩ := mj_fit_ok hF.1 hfit ev
  have kk : ∀ (H1 : Heap) (locs1 : List Loc), va_P D vwCl (ws.set q (a, .inr (ci, rs.set j rv))) H1 → va_D A (ws.set q (a, .inr (ci, rs.set j rv))) → va_S A s.heap H1 locs1 → W p l e R s m args below meth c H1 locs1 cells slots Q (F0 m (pc + 3) ls t2) := fun H1 locs1 hP' hD' hS' =>
    k _ H1 locs1 cells slots ls _ (mj_S_set hk hw ⟨rs.set j rv, rfl, mj_sr_set hfs ev⟩ hp hl hr2 hn h1 h2 hP' hD' hS')
  have hlen : j < rs.length := by rw [← mj_sr_len hfs]; exact hjl
  cases hf : mj_fin ci j with
  | false => exact va_put (D := D) (cl := vwCl) (tys := []) (own := mj_cls M.2.2.2.2.2.1) (ref := mj_cls ci) (C := mj_cls ci) (T := mj_T ci) (N := mj_N ci) hx hb hts (mj_fl hci) (mj_ty ci) (mj_tyok hci) (mj_nmok hci) hown hK hP hD hS q hk (mj_vw hci) j hj (hts _ hlink) (fun x h => by rw [hT] at h; exact h) hf (mj_tyok hci j hj) hn1 hn2 hlen hd kk
  | true =>
    rcases hfin with h0 | ⟨hi, hcc⟩
    · rw [hf] at h0; cases h0
    · exact va_putF (D := D) (cl := vwCl) (tys := []) (own := mj_cls M.2.2.2.2.2.1) (ref := mj_cls ci) (C := mj_cls ci) (T := mj_T ci) (N := mj_N ci) hx hb hts (mj_fl hci) (mj_ty ci) (mj_tyok hci) (mj_nmok hci) hown hK hP hD hS q hk (mj_vw hci) j hj (hts _ hlink) (fun x h => by rw [hT] at h; exact h) hf (hinit hi) (by rw [hcc]; exact hT) (mj_tyok hci j hj) hn1 hn2 hlen hd kk
/-- the tables' words of one kind of arrays -/
theorem mj_Kt (hK : va_K D vwCl [] s) {g : ClassId} {ty : FieldType} (h1 : ArrOfT s g ty) (h2 : va_RA s g ty) : va_K D vwCl [(g, ty)] s := by
  refine ⟨hK.1, fun i q hq => ?_⟩
  cases i with
  | zero => cases hq; exact ⟨h1, h2⟩
  | succ i => simp at hq
theorem mj_ka_at (hF : mj_CF ct X A s s.heap) {k : Nat} (hk : ¬ k < 1000000) {ty : FieldType} {n : Nat} {f : Nat → Int32} (h : mj_ka X k = some (ty, n, f)) {ads : List Nat} {rr : Value} (hr : mj_rv ct ads (.ref k) = some rr) : ∃ a, rr = .ref a ∧ va_T ty a n (fun j => .int (f j)) A s s.heap := by
  obtain ⟨a, e1, e2⟩ := hF.2.2.2.1 k ty n f h
  simp only [mj_rv, if_neg hk, e1] at hr
  cases hr
  exact ⟨a, rfl, e2⟩
theorem mj_arr_inv {k : Nat} {ty : FieldType} {n : Nat} {f : Nat → Int32} (h : mj_arr X w k = some (ty, n, f)) : (k < 1000000 ∧ w.1[k]? = some (.inl (ty, n, .inl f))) ∨ (¬ k < 1000000 ∧ mj_ka X k = some (ty, n, f)) := by
  unfold mj_arr at h
  split at h
  · next hk =>
    split at h
    · next hw => cases h; exact Or.inl ⟨hk, hw⟩
    · cases h
  · next hk => exact Or.inr ⟨hk, h⟩
theorem mj_o_iaload (C : mj_Cx p l R s m args meth c ct X D A M d) (hd : decode M.2.1 pc = .ok (.iaload, len)) (hs : mj_step X M .iaload len pc L st w = some (.inl r)) (k : mj_G p l e R s m args below meth c ct D A Q ads0 c0 s0 r.1 r.2.1 r.2.2.1 r.2.2.2) : mj_G p l e R s m args below meth c ct D A Q ads0 c0 s0 pc L st w := by
  obtain ⟨rfl, hs1⟩ := mj_ifn hs
  obtain ⟨hx, hb, hown, hts, hF, hA, hK, -⟩ := id C
  intro ws H locs cells slots ls rst ⟨hP, hD, hS, hw, hp, hl, hr, hn, h1, h2⟩
  unfold mj_iald at hs1
  split at hs1
  · next i q t =>
    split at hs1
    · next n f harr =>
      obtain ⟨hin, hs2⟩ := mj_ifm hs1
      cases mj_nx_inv hs2
      obtain ⟨t1, rfl, hr1⟩ := mj_sr_int hr
      obtain ⟨rr, t2, rfl, e1, hr2⟩ := mj_sr_cons hr1
      have kk := k ws H locs cells slots ls _ ⟨hP, hD, hS, hw, hp, hl, mj_sr_mki hr2, hn, h1, h2⟩
      rcases mj_arr_inv harr with ⟨hq, hwq⟩ | ⟨hq, hka⟩
      · obtain ⟨a, ee, rfl, hk, g, b, rfl, g1, g2, hb2⟩ := mj_wr_ref hw hwq hq e1
        cases hb2
        exact va_iald hx hb (mj_Kt hK g1 g2) hP q 0 hk rfl hin hd kk
      · obtain ⟨a, rfl, hT⟩ := mj_ka_at hF hq hka e1
        exact va_ti hx hb hT hS hin rfl hd kk
    · cases hs1
  · cases hs1
theorem mj_o_baload (C : mj_Cx p l R s m args meth c ct X D A M d) (hd : decode M.2.1 pc = .ok (.baload, len)) (hs : mj_step X M .baload len pc L st w = some (.inl r)) (k : mj_G p l e R s m args below meth c ct D A Q ads0 c0 s0 r.1 r.2.1 r.2.2.1 r.2.2.2) : mj_G p l e R s m args below meth c ct D A Q ads0 c0 s0 pc L st w := by
  obtain ⟨rfl, hs1⟩ := mj_ifn hs
  obtain ⟨hx, hb, hown, hts, hF, hA, hK, -⟩ := id C
  intro ws H locs cells slots ls rst ⟨hP, hD, hS, hw, hp, hl, hr, hn, h1, h2⟩
  unfold mj_bald at hs1
  split at hs1
  · next i q t =>
    split at hs1
    · next n f harr =>
      obtain ⟨hin, hs2⟩ := mj_ifm hs1
      cases mj_nx_inv hs2
      obtain ⟨t1, rfl, hr1⟩ := mj_sr_int hr
      obtain ⟨rr, t2, rfl, e1, hr2⟩ := mj_sr_cons hr1
      have kk := k ws H locs cells slots ls _ ⟨hP, hD, hS, hw, hp, hl, mj_sr_mki hr2, hn, h1, h2⟩
      rcases mj_arr_inv harr with ⟨hq, hwq⟩ | ⟨hq, hka⟩
      · obtain ⟨a, ee, rfl, hk, g, b, rfl, g1, g2, hb2⟩ := mj_wr_ref hw hwq hq e1
        cases hb2
        exact va_bald hx hb (mj_Kt hK g1 g2) hP q 0 hk rfl hin hd kk
      · obtain ⟨a, rfl, hT⟩ := mj_ka_at hF hq hka e1
        exact va_tb hx hb hT hS hin rfl hd kk
    · next n f harr =>
      obtain ⟨hin, hs2⟩ := mj_ifm hs1
      cases mj_nx_inv hs2
      obtain ⟨t1, rfl, hr1⟩ := mj_sr_int hr
      obtain ⟨rr, t2, rfl, e1, hr2⟩ := mj_sr_cons hr1
      have kk := k ws H locs cells slots ls _ ⟨hP, hD, hS, hw, hp, hl, mj_sr_mki hr2, hn, h1, h2⟩
      rcases mj_arr_inv harr with ⟨hq, hwq⟩ | ⟨hq, hka⟩
      · obtain ⟨a, ee, rfl, hk, g, b, rfl, g1, g2, hb2⟩ := mj_wr_ref hw hwq hq e1
        cases hb2
        exact va_zald hx hb (mj_Kt hK g1 g2) hP q 0 hk rfl hin hd kk
      · obtain ⟨a, rfl, hT⟩ := mj_ka_at hF hq hka e1
        exact va_tz hx hb hT hS hin rfl hd kk
    · cases hs1
  · cases hs1
theorem mj_o_laload (C : mj_Cx p l R s m args meth c ct X D A M d) (hd : decode M.2.1 pc = .ok (.laload, len)) (hs : mj_step X M .laload len pc L st w = some (.inl r)) (k : mj_G p l e R s m args below meth c ct D A Q ads0 c0 s0 r.1 r.2.1 r.2.2.1 r.2.2.2) : mj_G p l e R s m args below meth c ct D A Q ads0 c0 s0 pc L st w := by
  obtain ⟨rfl, hs1⟩ := mj_ifn hs
  obtain ⟨hx, hb, hown, hts, hF, hA, hK, -⟩ := id C
  intro ws H locs cells slots ls rst ⟨hP, hD, hS, hw, hp, hl, hr, hn, h1, h2⟩
  unfold mj_lald at hs1
  split at hs1
  · next i q t =>
    obtain ⟨hq, hs2⟩ := mj_ifn hs1
    split at hs2
    · next n f hwq =>
      obtain ⟨hin, hs3⟩ := mj_ifm hs2
      cases mj_nx_inv hs3
      obtain ⟨t1, rfl, hr1⟩ := mj_sr_int hr
      obtain ⟨rr, t2, rfl, e1, hr2⟩ := mj_sr_cons hr1
      obtain ⟨a, ee, rfl, hk, g, b, rfl, g1, g2, hb2⟩ := mj_wr_ref hw hwq hq e1
      cases hb2
      exact va_lald hx hb (mj_Kt hK g1 g2) hP q 0 hk rfl hin hd (k ws H locs cells slots ls _ ⟨hP, hD, hS, hw, hp, hl, mj_sr_mkl hr2, hn, h1, h2⟩)
    · cases hs2
  · cases hs1
theorem mj_o_aaload (C : mj_Cx p l R s m args meth c ct X D A M d) (hd : decode M.2.1 pc = .ok (.aaload, len)) (hs : mj_step X M .aaload len pc L st w = some (.inl r)) (k : mj_G p l e R s m args below meth c ct D A Q ads0 c0 s0 r.1 r.2.1 r.2.2.1 r.2.2.2) : mj_G p l e R s m args below meth c ct D A Q ads0 c0 s0 pc L st w := by
  obtain ⟨rfl, hs1⟩ := mj_ifn hs
  obtain ⟨hx, hb, hown, hts, hF, hA, hK, -⟩ := id C
  intro ws H locs cells slots ls rst ⟨hP, hD, hS, hw, hp, hl, hr, hn, h1, h2⟩
  unfold mj_aald at hs1
  split at hs1
  · next i q t =>
    obtain ⟨hq, hs2⟩ := mj_ifn hs1
    split at hs2
    · next n f hwq =>
      obtain ⟨hin, hs3⟩ := mj_ifm hs2
      split at hs3
      · next v hv =>
        cases mj_nx_inv hs3
        obtain ⟨t1, rfl, hr1⟩ := mj_sr_int hr
        obtain ⟨rr, t2, rfl, e1, hr2⟩ := mj_sr_cons hr1
        obtain ⟨a, ee, rfl, hk, g, b, rfl, g1, g2, f', rfl, hb3⟩ := mj_wr_ref hw hwq hq e1
        have h9 := hb3 i.toNatClampNeg
        rw [hv] at h9
        exact va_aldq hx hb (mj_Kt hK g1 g2) hP q 0 hk rfl hin hd (k ws H locs cells slots ls _ ⟨hP, hD, hS, hw, hp, hl, mj_sr_mk h9 hr2, hn, h1, h2⟩)
      · cases hs3
    · cases hs2
  · cases hs1
theorem mj_o_iastore (C : mj_Cx p l R s m args meth c ct X D A M d) (hd : decode M.2.1 pc = .ok (.iastore, len)) (hs : mj_step X M .iastore len pc L st w = some (.inl r)) (k : mj_G p l e R s m args below meth c ct D A Q ads0 c0 s0 r.1 r.2.1 r.2.2.1 r.2.2.2) : mj_G p l e R s m args below meth c ct D A Q ads0 c0 s0 pc L st w := by
  obtain ⟨rfl, hs1⟩ := mj_ifn hs
  obtain ⟨hx, hb, hown, hts, hF, hA, hK, -⟩ := id C
  intro ws H locs cells slots ls rst ⟨hP, hD, hS, hw, hp, hl, hr, hn, h1, h2⟩
  unfold mj_iast at hs1
  split at hs1
  · next x i q t =>
    obtain ⟨hq, hs2⟩ := mj_ifn hs1
    split at hs2
    · next n f hwq =>
      obtain ⟨hin, hs3⟩ := mj_ifm hs2
      cases mj_nx_inv hs3
      obtain ⟨t0, rfl, hr0⟩ := mj_sr_int hr
      obtain ⟨t1, rfl, hr1⟩ := mj_sr_int hr0
      obtain ⟨rr, t2, rfl, e1, hr2⟩ := mj_sr_cons hr1
      obtain ⟨a, ee, rfl, hk, g, b, rfl, g1, g2, hb2⟩ := mj_wr_ref hw hwq hq e1
      cases hb2
      exact va_iast hx hb (mj_Kt hK g1 g2) hP hD hS q 0 hk rfl hin hd (fun H1 locs1 hP' hD' hS' => k _ H1 locs1 cells slots ls _ (mj_S_set hk hw ⟨g, _, rfl, g1, g2, rfl⟩ hp hl hr2 hn h1 h2 hP' hD' hS'))
    · cases hs2
  · cases hs1
theorem mj_o_bastore (C : mj_Cx p l R s m args meth c ct X D A M d) (hd : decode M.2.1 pc = .ok (.bastore, len)) (hs : mj_step X M .bastore len pc L st w = some (.inl r)) (k : mj_G p l e R s m args below meth c ct D A Q ads0 c0 s0 r.1 r.2.1 r.2.2.1 r.2.2.2) : mj_G p l e R s m args below meth c ct D A Q ads0 c0 s0 pc L st w := by
  obtain ⟨rfl, hs1⟩ := mj_ifn hs
  obtain ⟨hx, hb, hown, hts, hF, hA, hK, -⟩ := id C
  intro ws H locs cells slots ls rst ⟨hP, hD, hS, hw, hp, hl, hr, hn, h1, h2⟩
  unfold mj_bast at hs1
  split at hs1
  · next x i q t =>
    obtain ⟨hq, hs2⟩ := mj_ifn hs1
    split at hs2
    · next n f hwq =>
      obtain ⟨hin, hs3⟩ := mj_ifm hs2
      cases mj_nx_inv hs3
      obtain ⟨t0, rfl, hr0⟩ := mj_sr_int hr
      obtain ⟨t1, rfl, hr1⟩ := mj_sr_int hr0
      obtain ⟨rr, t2, rfl, e1, hr2⟩ := mj_sr_cons hr1
      obtain ⟨a, ee, rfl, hk, g, b, rfl, g1, g2, hb2⟩ := mj_wr_ref hw hwq hq e1
      cases hb2
      exact va_bast hx hb (mj_Kt hK g1 g2) hP hD hS q 0 hk rfl hin hd (fun H1 locs1 hP' hD' hS' => k _ H1 locs1 cells slots ls _ (mj_S_set hk hw ⟨g, _, rfl, g1, g2, rfl⟩ hp hl hr2 hn h1 h2 hP' hD' hS'))
    · next n f hwq =>
      obtain ⟨hin, hs3⟩ := mj_ifm hs2
      cases mj_nx_inv hs3
      obtain ⟨t0, rfl, hr0⟩ := mj_sr_int hr
      obtain ⟨t1, rfl, hr1⟩ := mj_sr_int hr0
      obtain ⟨rr, t2, rfl, e1, hr2⟩ := mj_sr_cons hr1
      obtain ⟨a, ee, rfl, hk, g, b, rfl, g1, g2, hb2⟩ := mj_wr_ref hw hwq hq e1
      cases hb2
      exact va_zast hx hb (mj_Kt hK g1 g2) hP hD hS q 0 hk rfl hin hd (fun H1 locs1 hP' hD' hS' => k _ H1 locs1 cells slots ls _ (mj_S_set hk hw ⟨g, _, rfl, g1, g2, rfl⟩ hp hl hr2 hn h1 h2 hP' hD' hS'))
    · cases hs2
  · cases hs1
theorem mj_o_lastore (C : mj_Cx p l R s m args meth c ct X D A M d) (hd : decode M.2.1 pc = .ok (.lastore, len)) (hs : mj_step X M .lastore len pc L st w = some (.inl r)) (k : mj_G p l e R s m args below meth c ct D A Q ads0 c0 s0 r.1 r.2.1 r.2.2.1 r.2.2.2) : mj_G p l e R s m args below meth c ct D A Q ads0 c0 s0 pc L st w := by
  obtain ⟨rfl, hs1⟩ := mj_ifn hs
  obtain ⟨hx, hb, hown, hts, hF, hA, hK, -⟩ := id C
  intro ws H locs cells slots ls rst ⟨hP, hD, hS, hw, hp, hl, hr, hn, h1, h2⟩
  unfold mj_last at hs1
  split at hs1
  · next x i q t =>
    obtain ⟨hq, hs2⟩ := mj_ifn hs1
    split at hs2
    · next n f hwq =>
      obtain ⟨hin, hs3⟩ := mj_ifm hs2
      cases mj_nx_inv hs3
      obtain ⟨t0, rfl, hr0⟩ := mj_sr_long hr
      obtain ⟨t1, rfl, hr1⟩ := mj_sr_int hr0
      obtain ⟨rr, t2, rfl, e1, hr2⟩ := mj_sr_cons hr1
      obtain ⟨a, ee, rfl, hk, g, b, rfl, g1, g2, hb2⟩ := mj_wr_ref hw hwq hq e1
      cases hb2
      exact va_last hx hb (mj_Kt hK g1 g2) hP hD hS q 0 hk rfl hin hd (fun H1 locs1 hP' hD' hS' => k _ H1 locs1 cells slots ls _ (mj_S_set hk hw ⟨g, _, rfl, g1, g2, rfl⟩ hp hl hr2 hn h1 h2 hP' hD' hS'))
    · cases hs2
  · cases hs1
theorem mj_o_arraylength (C : mj_Cx p l R s m args meth c ct X D A M d) (hd : decode M.2.1 pc = .ok (.arraylength, len)) (hs : mj_step X M .arraylength len pc L st w = some (.inl r)) (k : mj_G p l e R s m args below meth c ct D A Q ads0 c0 s0 r.1 r.2.1 r.2.2.1 r.2.2.2) : mj_G p l e R s m args below meth c ct D A Q ads0 c0 s0 pc L st w := by
  obtain ⟨rfl, hs1⟩ := mj_ifn hs
  obtain ⟨hx, hb, hown, hts, hF, hA, hK, -⟩ := id C
  intro ws H locs cells slots ls rst ⟨hP, hD, hS, hw, hp, hl, hr, hn, h1, h2⟩
  unfold mj_alen at hs1
  split at hs1
  · next q t =>
    obtain ⟨rr, t2, rfl, e1, hr2⟩ := mj_sr_cons hr
    split at hs1
    · next hq =>
      split at hs1
      · next ty n b0 hwq =>
        cases mj_nx_inv hs1
        obtain ⟨a, ee, rfl, hk, g, b, rfl, g1, g2, hb2⟩ := mj_wr_ref hw hwq hq e1
        exact va_alen hx hb (mj_Kt hK g1 g2) hP q 0 hk rfl rfl hd (k ws H locs cells slots ls _ ⟨hP, hD, hS, hw, hp, hl, mj_sr_mki hr2, hn, h1, h2⟩)
      · cases hs1
    · next hq =>
      split at hs1
      · next ty n f hka =>
        cases mj_nx_inv hs1
        obtain ⟨a, rfl, hT⟩ := mj_ka_at hF hq hka e1
        exact va_tlen hx hb hT hS rfl hd (k ws H locs cells slots ls _ ⟨hP, hD, hS, hw, hp, hl, mj_sr_mki hr2, hn, h1, h2⟩)
      · cases hs1
  · cases hs1
end MJH
