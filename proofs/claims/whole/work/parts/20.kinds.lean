/-! which instructions end a method, which call -/
def mj_kind (i : Instr) (r : mj_R) : Prop := match r with
  | .inl _ => True
  | .inr (.inl _) => i = .ireturn ∨ i = .areturn ∨ i = .return_ ∨ ∃ ix, i = .new ix
  | .inr (.inr _) => ∃ ix, i = .invokevirtual ix ∨ i = .invokespecial ix ∨ i = .invokestatic ix
theorem mj_aald_kind {pc : Nat} {L : mj_L} {st : List Value} {w : mj_W} {r : mj_R} (h : mj_aald pc L st w = some r) : mj_kind .aaload r := by
  unfold mj_aald at h
  split at h
  · obtain ⟨-, h1⟩ := mj_ifn h
    split at h1
    · obtain ⟨-, h2⟩ := mj_ifm h1
      split at h2
      · cases h2; exact trivial
      · cases h2
    · cases h1
  · cases h
theorem mj_aast_kind {pc : Nat} {L : mj_L} {st : List Value} {w : mj_W} {r : mj_R} (h : mj_aast pc L st w = some r) : mj_kind .aastore r := by
  unfold mj_aast at h
  split at h
  · obtain ⟨-, h1⟩ := mj_ifn h
    split at h1
    · obtain ⟨-, h2⟩ := mj_ifm h1
      cases h2; exact trivial
    · cases h1
  · cases h
set_option maxHeartbeats 4000000 in
theorem mj_step_kind {X : mj_X} {M : mj_M} {i : Instr} {len pc : Nat} {L : mj_L} {st : List Value} {w : mj_W} {r : mj_R} (h : mj_step X M i len pc L st w = some r) : mj_kind i r := by
  by_cases ha : i = .aaload
  · subst ha
    exact mj_aald_kind (mj_ifn (show (if len = 1 then mj_aald pc L st w else none) = some r from h)).2
  by_cases hb : i = .aastore
  · subst hb
    exact mj_aast_kind (mj_ifn (show (if len = 1 then mj_aast pc L st w else none) = some r from h)).2
  match r with
  | .inl _ => exact trivial
  | .inr r =>
    cases i <;> first | (exact absurd rfl ha) | (exact absurd rfl hb) | (cases r <;> first | exact Or.inl rfl | exact Or.inr (Or.inl rfl) | exact Or.inr (Or.inr (Or.inl rfl)) | exact Or.inr (Or.inr (Or.inr ⟨_, rfl⟩)) | exact ⟨_, Or.inl rfl⟩ | exact ⟨_, Or.inr (Or.inl rfl)⟩ | exact ⟨_, Or.inr (Or.inr rfl)⟩ | (simp only [mj_step, mj_nx, mj_ldi, mj_ldl, mj_lda, mj_sto, mj_sti, mj_sta, mj_stl, mj_bin, mj_binl, mj_un, mj_jmp, mj_if, mj_tsw, mj_getf, mj_putf, mj_push, mj_nar, mj_anew, mj_iald, mj_bald, mj_lald, mj_iast, mj_bast, mj_last, mj_alen, mj_gets, mj_ldc, mj_ldc2, mj_new, mj_inv, mj_invv, mj_invi, mj_copy, mj_math, mj_invs, mj_iret, mj_aret, mj_vret] at h <;> (repeat' (split at h)) <;> (cases h; done)))
