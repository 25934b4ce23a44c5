/-! what a method of the small machine stands on -/
def mj_CF (ct : Nat → Option Value) (X : mj_X) (A : Nat → Prop) (U : State) (H : Heap) : Prop :=
  mj_okct ct ∧ (∀ w ∈ mj_nest, va_Nw w U) ∧
  (vx_Zq Bundle.tN "UNASSIGNED_STACK" Bundle.steD A U H ∧ vx_Zq Bundle.tN "SUPPRESSED_SENTINEL" Bundle.listD A U H) ∧
  (∀ (k : Nat) (ty : FieldType) (n : Nat) (f : Nat → Int32), mj_ka X k = some (ty, n, f) → ∃ a, ct k = some (.ref a) ∧ va_T ty a n (fun j => .int (f j)) A U H) ∧
  (∀ b : Nat, (b = 0 ∨ b = 1 ∨ b = 300) → ∃ v, ct (1000000 + b) = some v ∧ va_Z (mj_stf b).1 (mj_stf b).2.1 (mj_stf b).2.2 v A U H) ∧
  va_Z "java/lang/String" "COMPACT_STRINGS" "Z" (.int 1) A U H ∧
  (∀ i : Nat, i < 23 → ∃ a b, ct (1000100 + i) = some (.ref a) ∧ ct (1000200 + i) = some (.ref b) ∧ va_O "java/lang/String" a A U H ∧ va_OF "java/lang/String" "coder" "B" (.int 0) a A U H ∧ va_OF "java/lang/String" "value" "[B" (.ref b) a A U H) ∧
  (∀ (i : Nat) (own : String) (ix : Nat) (tx : String), mj_sts[i]? = some (own, ix, tx) → ∃ a, ct (1000100 + i) = some (.ref a) ∧ vk_R own ix tx a U) ∧
  va_AO "java/lang/String" U ∧ (va_Nc (mj_exn 0) (mj_exn 1) U ∧ va_Nc (mj_exn 1) (mj_exn 0) U)
theorem mj_nest_form : ∀ w ∈ mj_nest, (∃ a i x h, w = Cond.methodLinkNest a i x h) ∨ (∃ a i r n d h, w = Cond.fieldLinkNest a i r n d h) ∨ (∃ x, w = Cond.declares x) ∨ ∃ a b, w = Cond.castable a b := by
  simp only [mj_nest, List.forall_mem_cons]
  refine ⟨?_, ?_, ?_, ?_, ?_, ?_, ?_, ?_, ?_, ?_, ?_, ?_, ?_, ?_, ?_, ?_, ?_, ?_, ?_, ?_, ?_, ?_, ?_, ?_, ?_, ?_, ?_, ?_, fun _ h => nomatch h⟩ <;> first | exact Or.inl ⟨_, _, _, _, rfl⟩ | exact Or.inr (Or.inl ⟨_, _, _, _, _, _, rfl⟩) | exact Or.inr (Or.inr (Or.inl ⟨_, rfl⟩)) | exact Or.inr (Or.inr (Or.inr ⟨_, _, rfl⟩))
theorem mj_CF_to {ct : Nat → Option Value} {X : mj_X} {A B : Nat → Prop} {s U : State} {H0 H : Heap} (hW : s.WarmedH U.vm) (hk : ∀ a : Nat, a < H0.size → ¬ A a → H[a]? = H0[a]?) (hAB : ∀ q, B q → A q) (h : mj_CF ct X A s H0) : mj_CF ct X B U H := by
  obtain ⟨h1, h2, h3, h4, h5, h6, h7, h8, h9, h10⟩ := h
  refine ⟨h1, fun w hw => ?_, ⟨(vx_Zq.moved hW.alike (h3.1.kept hk)).narrow hAB, (vx_Zq.moved hW.alike (h3.2.kept hk)).narrow hAB⟩, fun k ty n f hf => ?_, fun b hb => ?_, (va_Z.moved hW.alike (h6.kept hk)).narrow hAB, fun i hi => ?_, fun i own ix tx hi => ?_, va_AO.moved hW.alike h9, va_Nc.moved hW.alike h10.1, va_Nc.moved hW.alike h10.2⟩
  · have hz := h2 w hw
    rcases mj_nest_form w hw with ⟨a, i, x, h, rfl⟩ | ⟨a, i, r, n, d, h, rfl⟩ | ⟨x, rfl⟩ | ⟨a, b, rfl⟩
    · exact va_Nw.warmM hW hz
    · exact va_Nw.warmF hW hz
    · exact va_Nw.warmD hW hz
    · exact va_Nw.warmC hW hz
  · obtain ⟨a, e1, e2⟩ := h4 k ty n f hf
    exact ⟨a, e1, (va_T.moved hW.alike (e2.kept hk)).narrow hAB⟩
  · obtain ⟨v, e1, e2⟩ := h5 b hb
    exact ⟨v, e1, (va_Z.moved hW.alike (e2.kept hk)).narrow hAB⟩
  · obtain ⟨a, b, e1, e2, e3, e4, e5⟩ := h7 i hi
    exact ⟨a, b, e1, e2, (va_O.moved hW.alike (e3.kept hk)).narrow hAB, (va_OF.moved hW.alike (e4.kept hk)).narrow hAB, (va_OF.moved hW.alike (e5.kept hk)).narrow hAB⟩
  · obtain ⟨a, e1, e2⟩ := h8 i own ix tx hi
    exact ⟨a, e1, vk_R.warm hW e2⟩
def mj_Cx (p : Program) (l : Launch) (R : Room) (s : State) (m : MethodId) (args : Array Value) (meth : Method) (c : Code) (ct : Nat → Option Value) (X : mj_X) (D : va_G) (A : Nat → Prop) (M : mj_M) (d : Nat) : Prop :=
  p.tables.exec = Jvm.exec ∧ c.code = M.2.1 ∧ s.vm.findClass (mj_cls M.2.2.2.2.2.1) = some m.cls ∧ (∀ w ∈ mj_tbl, w.before args s = true) ∧ mj_CF ct X A s s.heap ∧ (∀ q, s.heap.size ≤ q → A q) ∧
  va_K D vwCl [] s ∧ meth.sig.returnType = M.2.2.2.1 ∧ meth.locks = false ∧ c.exceptionTable.toList = tableOf M.2.2.2.2.2.2.2 ∧ l.stackTraces = false ∧ (M.2.2.2.2.2.2.1 = true → meth.name = "<init>") ∧ (d + 10 ≤ R.frames ∧ 64 * d + 400 ≤ R.locals) ∧ c.maxLocals = M.2.2.1
def mj_S (s : State) (c : Code) (ct : Nat → Option Value) (D : va_G) (A : Nat → Prop) (ads0 : List Nat) (c0 s0 : Nat) (L : mj_L) (st : List Value) (w : mj_W) (ws : va_W) (H : Heap) (locs : List Loc) (cells slots : Nat) (ls : Array Slot) (rst : List Value) : Prop :=
  va_P D vwCl ws H ∧ va_D A ws ∧ va_S A s.heap H locs ∧ mj_wr ct w.1 ws s ∧ mj_pre ads0 (ws.map Prod.fst) ∧ mj_lr ct (ws.map Prod.fst) L ls ∧ mj_sr ct (ws.map Prod.fst) st rst ∧ L.length = c.maxLocals ∧ w.2.1 = c0 + cells ∧ w.2.2 = s0 + slots
def mj_G (p : Program) (l : Launch) (e : Env) (R : Room) (s : State) (m : MethodId) (args : Array Value) (below : List Frame) (meth : Method) (c : Code) (ct : Nat → Option Value) (D : va_G) (A : Nat → Prop) (Q : State → Prop) (ads0 : List Nat) (c0 s0 : Nat) (pc : Nat) (L : mj_L) (st : List Value) (w : mj_W) : Prop :=
  ∀ (ws : va_W) (H : Heap) (locs : List Loc) (cells slots : Nat) (ls : Array Slot) (rst : List Value), mj_S s c ct D A ads0 c0 s0 L st w ws H locs cells slots ls rst → W p l e R s m args below meth c H locs cells slots Q (F0 m pc ls rst)
theorem mj_ifn {α : Type} {c : Prop} {_ : Decidable c} {a : Option α} {b : α} (h : (if c then a else none) = some b) : c ∧ a = some b := by
  split at h
  · next hc => exact ⟨hc, h⟩
  · cases h
theorem mj_ifm {α : Type} {c : Prop} {_ : Decidable c} {a : Option α} {b : α} (h : (if c then none else a) = some b) : ¬ c ∧ a = some b := by
  split at h
  · cases h
  · next hc => exact ⟨hc, h⟩
abbrev mj_T4 : Type := Nat × mj_L × List Value × mj_W
theorem mj_nx_inv {pc : Nat} {L : mj_L} {st : List Value} {w : mj_W} {r : mj_T4} (h : mj_nx pc L st w = some (.inl r)) : r = (pc, L, st, w) := by
  unfold mj_nx at h
  cases h
  rfl
theorem mj_bin_inv {f : Int32 → Int32 → Int32} {pc : Nat} {L : mj_L} {st : List Value} {w : mj_W} {r : mj_T4} (h : mj_bin f pc L st w = some (.inl r)) : ∃ x y t, st = .int y :: .int x :: t ∧ r = (pc + 1, L, .int (f x y) :: t, w) := by
  unfold mj_bin at h
  split at h
  · exact ⟨_, _, _, rfl, mj_nx_inv h⟩
  · cases h
theorem mj_binl_inv {f : Int64 → Int64 → Int64} {pc : Nat} {L : mj_L} {st : List Value} {w : mj_W} {r : mj_T4} (h : mj_binl f pc L st w = some (.inl r)) : ∃ x y t, st = .long y :: .long x :: t ∧ r = (pc + 1, L, .long (f x y) :: t, w) := by
  unfold mj_binl at h
  split at h
  · exact ⟨_, _, _, rfl, mj_nx_inv h⟩
  · cases h
theorem mj_un_inv {f : Int32 → Int32} {pc : Nat} {L : mj_L} {st : List Value} {w : mj_W} {r : mj_T4} (h : mj_un f pc L st w = some (.inl r)) : ∃ x t, st = .int x :: t ∧ r = (pc + 1, L, .int (f x) :: t, w) := by
  unfold mj_un at h
  split at h
  · exact ⟨_, _, rfl, mj_nx_inv h⟩
  · cases h
theorem mj_ldi_inv {pc i : Nat} {L : mj_L} {st : List Value} {w : mj_W} {r : mj_T4} (h : mj_ldi pc L st w i = some (.inl r)) : ∃ x, L[i]? = some (some (.int x)) ∧ r = (pc, L, .int x :: st, w) := by
  unfold mj_ldi at h
  split at h
  · next hl => exact ⟨_, hl, mj_nx_inv h⟩
  · cases h
theorem mj_ldl_inv {pc i : Nat} {L : mj_L} {st : List Value} {w : mj_W} {r : mj_T4} (h : mj_ldl pc L st w i = some (.inl r)) : ∃ x, L[i]? = some (some (.long x)) ∧ r = (pc, L, .long x :: st, w) := by
  unfold mj_ldl at h
  split at h
  · next hl => exact ⟨_, hl, mj_nx_inv h⟩
  · cases h
theorem mj_lda_inv {pc i : Nat} {L : mj_L} {st : List Value} {w : mj_W} {r : mj_T4} (h : mj_lda pc L st w i = some (.inl r)) : ∃ x, L[i]? = some (some (.ref x)) ∧ x ≠ 1000300 ∧ r = (pc, L, .ref x :: st, w) := by
  unfold mj_lda at h
  split at h
  · next hl =>
    obtain ⟨h1, h2⟩ := mj_ifm h
    exact ⟨_, hl, h1, mj_nx_inv h2⟩
  · cases h
theorem mj_sto_inv {pc i : Nat} {L : mj_L} {st : List Value} {w : mj_W} {v : Value} {r : mj_T4} (h : mj_sto pc L st w i v = some (.inl r)) : i < L.length ∧ mj_ok1 L i = true ∧ r = (pc, L.set i (some v), st, w) := by
  unfold mj_sto at h
  obtain ⟨h1, h⟩ := mj_ifn h
  obtain ⟨h2, h⟩ := mj_ifn h
  exact ⟨h1, h2, mj_nx_inv h⟩
theorem mj_jmp_inv {pc : Nat} {off : Int} {L : mj_L} {st : List Value} {w : mj_W} {r : mj_T4} (h : mj_jmp pc off L st w = some (.inl r)) : ∃ tgt : Nat, (pc : Int) + off = (tgt : Int) ∧ r = (tgt, L, st, w) := by
  unfold mj_jmp at h
  obtain ⟨h1, h⟩ := mj_ifn h
  exact ⟨_, (Int.toNat_of_nonneg h1).symm, mj_nx_inv h⟩
