/-! calls of the small machine's methods -/
def mj_room (d mc ms : Nat) : Room := { frames := d + 10, cells := mc, slots := ms, locals := 64 * d + 400 }
def mj_Pc (ct : Nat → Option Value) (X : mj_X) (D : va_G) (ws : va_W) (w : mj_W) (sz : Nat) (As : List Value) : Array Value → State → Prop := fun a U =>
  a = As.toArray ∧ U.heap.size = sz ∧ va_P D vwCl ws U.heap ∧ va_K D vwCl [] U ∧ va_D (va_A ws sz) ws ∧ mj_wr ct w.1 ws U ∧ mj_CF ct X (va_A ws sz) U U.heap
theorem mj_Pc_blind {ct : Nat → Option Value} {X : mj_X} {D : va_G} {ws : va_W} {w : mj_W} {sz : Nat} {As : List Value} : FrameBlind (mj_Pc ct X D ws w sz As) := by
  intro a U g mk ⟨h1, h2, h3, h4, h5, h6, h7⟩
  exact ⟨h1, h2, h3, va_K.moved (u := U) (U := U.calling g mk a) (Vm.Alike.refl U.vm) h4, h5, mj_wr_moved (u := U) (U := U.calling g mk a) (Vm.Alike.refl U.vm) h6, mj_CF_to (s := U) (U := U.calling g mk a) (State.WarmedH.refl U) (fun _ _ _ => rfl) (fun _ h => h) h7⟩
theorem mj_sl_args {ct : Nat → Option Value} (hc : mj_okct ct) {ads : List Nat} : ∀ {As Bs : List Value} (off i : Nat) (v : Value), mj_sr ct ads As Bs → (mj_sl As)[i]? = some (some v) → ∃ r, mj_rv ct ads v = some r ∧ (off + i, r) ∈ lv_args off Bs
  | [], Bs, off, i, v, h, hi => by simp [mj_sl] at hi
  | a :: As, Bs, off, i, v, h, hi => by
    obtain ⟨r, t, rfl, h1, h2⟩ := mj_sr_cons h
    have hcat := mj_rv_cat hc h1
    have hsl : mj_sl (a :: As) = (if a.category = 2 then [some a, none] else [some a]) ++ mj_sl As := rfl
    rw [hsl] at hi
    by_cases h2c : a.category = 2
    · rw [if_pos h2c] at hi
      match i, hi with
      | 0, hi => cases hi; exact ⟨r, h1, List.mem_cons_self⟩
      | 1, hi => cases hi
      | i + 2, hi =>
        obtain ⟨r', e1, e2⟩ := mj_sl_args hc (off + 2) i v h2 hi
        refine ⟨r', e1, List.mem_cons_of_mem _ ?_⟩
        rw [if_pos (by rw [hcat]; exact h2c), show off + (i + 2) = off + 2 + i by omega]
        exact e2
    · rw [if_neg h2c] at hi
      match i, hi with
      | 0, hi => cases hi; exact ⟨r, h1, List.mem_cons_self⟩
      | i + 1, hi =>
        obtain ⟨r', e1, e2⟩ := mj_sl_args hc (off + 1) i v h2 hi
        refine ⟨r', e1, List.mem_cons_of_mem _ ?_⟩
        rw [if_neg (by rw [hcat]; exact h2c), show off + (i + 1) = off + 1 + i by omega]
        exact e2
theorem mj_sl_len {ct : Nat → Option Value} (hc : mj_okct ct) {ads : List Nat} : ∀ {As Bs : List Value}, mj_sr ct ads As Bs → (lg_sl Bs).length = (mj_sl As).length
  | [], Bs, h => by rw [mj_sr_nil h]; rfl
  | a :: As, Bs, h => by
    obtain ⟨r, t, rfl, h1, h2⟩ := mj_sr_cons h
    have hcat := mj_rv_cat hc h1
    have hsl : mj_sl (a :: As) = (if a.category = 2 then [some a, none] else [some a]) ++ mj_sl As := rfl
    have hsl2 : lg_sl (r :: t) = (if r.category = 2 then [.val r, .second] else [.val r]) ++ lg_sl t := rfl
    rw [hsl, hsl2, List.length_append, List.length_append, mj_sl_len hc h2, hcat]
    by_cases h2c : a.category = 2
    · rw [if_pos h2c, if_pos h2c]; rfl
    · rw [if_neg h2c, if_neg h2c]; rfl
theorem mj_entry_len {n : Nat} {As : List Value} (h : (mj_sl As).length ≤ n) : (mj_entry n As).length = n := by
  simp only [mj_entry, List.length_append, List.length_replicate]
  omega
theorem mj_entry_at {n i : Nat} {As : List Value} {v : Value} (h : (mj_entry n As)[i]? = some (some v)) : (mj_sl As)[i]? = some (some v) := by
  unfold mj_entry at h
  by_cases hi : i < (mj_sl As).length
  · rwa [List.getElem?_append_left hi] at h
  · rw [List.getElem?_append_right (by omega), List.getElem?_replicate] at h
    split at h <;> cases h
/-- a method's contract, out of its walk -/
theorem mj_met {l : Launch} {ct : Nat → Option Value} {X : mj_X} {D : va_G} {ws : va_W} {w wf : mj_W} {sz d mc ms : Nat} {As Bs : List Value} {out : mj_O} {Z : mj_M} (hmok : mj_mok Z) (hst : l.stackTraces = false) (hAs : mj_sr ct (ws.map Prod.fst) As Bs) (hlen : (mj_sl As).length ≤ Z.2.2.1)
    (ih : ∀ (p : Program) (e : Env) (s : State) (m : MethodId) (args : Array Value) (below : List Frame) (meth : Method) (c : Code), mj_Cx p l (mj_room d mc ms) s m args meth c ct X D (va_A ws sz) Z d →
      mj_G p l e (mj_room d mc ms) s m args below meth c ct D (va_A ws sz) (vx_MQ below (mj_Qc ct D (va_A ws sz) (ws.map Prod.fst) out wf) (mj_XC ct D (va_A ws sz) (ws.map Prod.fst) out wf) args s mc ms (va_A ws sz)) (ws.map Prod.fst) w.2.1 w.2.2 0 (mj_entry Z.2.2.1 As) [] w) :
    vx_Met l Z.1 (mj_cw Z :: mj_tbl) (mj_room d mc ms) (mj_Pc ct X D ws w sz Bs) (mj_Qc ct D (va_A ws sz) (ws.map Prod.fst) out wf) (mj_XC ct D (va_A ws sz) (ws.map Prod.fst) out wf) mc ms (va_A ws sz) := by
  obtain ⟨hcw, hcls, hini, hnm, hplain, hmax, hinit⟩ := hmok
  have body : ∀ (p : Program) (e : Env) (s : State) (m : MethodId) (args : Array Value) (below : List Frame) (meth : Method) (c : Code) (s₁ : State), BodyLoose p l Z.1 (headSpec (mj_cw Z :: mj_tbl) (mj_room d mc ms)) Z.2.1 Z.2.2.1 Z.2.2.2.1 e s m args below meth c s₁ → c.maxLocals = Z.2.2.1 → c.exceptionTable.toList = tableOf Z.2.2.2.2.2.2.2 → mj_Pc ct X D ws w sz Bs args s →
      W p l e (mj_room d mc ms) s m args below meth c s.heap [] 0 0 (vx_MQ below (mj_Qc ct D (va_A ws sz) (ws.map Prod.fst) out wf) (mj_XC ct D (va_A ws sz) (ws.map Prod.fst) out wf) args s mc ms (va_A ws sz)) (entryFrame m args Z.2.2.1) := by
    intro p e s m args below meth c s₁ B hml htab ⟨hargs, hsz, hP, hK, hD, hw, hF⟩
    have hts0 : ∀ c ∈ (mj_cw Z :: mj_tbl), c.before args s = true := atoms_spec (ws := mj_cw Z :: mj_tbl) B.pre
    have hown : s.vm.findClass Z.1.cls = some m.cls := findClass_of_methodNamed B.named
    have hC : mj_Cx p l (mj_room d mc ms) s m args meth c ct X D (va_A ws sz) Z d := ⟨B.exec, B.bytes, by rw [← hcls]; exact hown, fun w hw => hts0 w (List.mem_cons_of_mem _ hw), hF, fun q hq => Or.inr (by rw [hsz] at hq; exact hq), hK, B.returns, B.notSynchronized, htab, hst, fun hi => (name_of_methodNamed B.named B.method).1.trans (hinit hi), ⟨Nat.le_refl _, Nat.le_refl _⟩, hml⟩
    have hG := ih p e s m args below meth c hC
    have hlen2 : (lg_sl Bs).length ≤ Z.2.2.1 := by rw [mj_sl_len hF.1 hAs]; exact hlen
    have hl := lv_entry Bs (n := Z.2.2.1) hlen2
    have hfr : entryFrame m args Z.2.2.1 = F0 m 0 ((lg_sl Bs ++ List.replicate (Z.2.2.1 - (lg_sl Bs).length) Slot.unset).toArray) [] := by rw [hargs]; exact lg_entry_eq m Bs Z.2.2.1
    rw [hfr]
    exact hG ws s.heap [] 0 0 _ [] ⟨hP, hD, va_S.rf, hw, mj_pre_rf _, ⟨_, by rw [mj_entry_len hlen]; exact hl, fun i v hi => by
      have h9 := mj_sl_args hF.1 0 i v hAs (mj_entry_at hi)
      simpa using h9⟩, rfl, by rw [mj_entry_len hlen, hml], rfl, rfl⟩
  cases hhh : Z.2.2.2.2.2.2.2 with
  | nil =>
    have hcode : mj_cw Z = Cond.code Z.1 Z.2.1 Z.2.2.1 Z.2.2.2.1 := by simp only [mj_cw, hhh]
    refine vx_ofW (cc := Z.2.1) (maxL := Z.2.2.1) (ret := Z.2.2.2.1) (ws' := mj_tbl) hplain (by rw [hcode]) ?_
    intro p e s m args below meth c s₁ B hml hno hPc
    refine body p e s m args below meth c s₁ B hml ?_ hPc
    rw [hhh]
    cases hct : c.exceptionTable.toList with
    | nil => rfl
    | cons a t => exact absurd (hno a (by rw [hct]; exact List.mem_cons_self)) id
  | cons a t =>
    have hcode : mj_cw Z = Cond.codeWith Z.1 Z.2.1 Z.2.2.1 Z.2.2.2.1 (a :: t) := by simp only [mj_cw, hhh]
    refine vx_ofWH (cc := Z.2.1) (maxL := Z.2.2.1) (ret := Z.2.2.2.1) (hh := a :: t) (ws' := mj_tbl) hplain (by rw [hcode]) ?_
    intro p e s m args below meth c s₁ B hml hPc
    refine body p e s m args below meth c s₁ B hml ?_ hPc
    have hts0 : ∀ c ∈ (mj_cw Z :: mj_tbl), c.before args s = true := atoms_spec (ws := mj_cw Z :: mj_tbl) B.pre
    have h9 := hts0 _ List.mem_cons_self
    rw [hcode] at h9
    rw [hhh]
    exact vx_table (x := Z.1) B h9
