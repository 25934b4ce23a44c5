/-! what was made is never less -/
def mj_le (w w' : mj_W) : Prop := w.2.1 ≤ w'.2.1 ∧ w.2.2 ≤ w'.2.2
theorem mj_le_rf (w : mj_W) : mj_le w w := ⟨Nat.le_refl _, Nat.le_refl _⟩
theorem mj_le_tr {a b c : mj_W} (h : mj_le a b) (k : mj_le b c) : mj_le a c := ⟨Nat.le_trans h.1 k.1, Nat.le_trans h.2 k.2⟩
def mj_rle (w : mj_W) (r : mj_R) : Prop := match r with
  | .inl q => mj_le w q.2.2.2
  | .inr (.inl q) => mj_le w q.2
  | .inr (.inr _) => True
theorem mj_aald_mono {pc : Nat} {L : mj_L} {st : List Value} {w : mj_W} {r : mj_R} (h : mj_aald pc L st w = some r) : mj_rle w r := by
  unfold mj_aald at h
  split at h
  · obtain ⟨-, h1⟩ := mj_ifn h
    split at h1
    · obtain ⟨-, h2⟩ := mj_ifm h1
      split at h2
      · cases h2; exact mj_le_rf w
      · cases h2
    · cases h1
  · cases h
theorem mj_aast_mono {pc : Nat} {L : mj_L} {st : List Value} {w : mj_W} {r : mj_R} (h : mj_aast pc L st w = some r) : mj_rle w r := by
  unfold mj_aast at h
  split at h
  · obtain ⟨-, h1⟩ := mj_ifn h
    split at h1
    · obtain ⟨-, h2⟩ := mj_ifm h1
      cases h2; exact mj_le_rf w
    · cases h1
  · cases h
set_option maxHeartbeats 4000000 in
theorem mj_step_mono {X : mj_X} {M : mj_M} {i : Instr} {len pc : Nat} {L : mj_L} {st : List Value} {w : mj_W} {r : mj_R} (h : mj_step X M i len pc L st w = some r) : mj_rle w r := by
  by_cases ha : i = .aaload
  · subst ha
    exact mj_aald_mono (mj_ifn (show (if len = 1 then mj_aald pc L st w else none) = some r from h)).2
  by_cases hb : i = .aastore
  · subst hb
    exact mj_aast_mono (mj_ifn (show (if len = 1 then mj_aast pc L st w else none) = some r from h)).2
  cases i <;> first | (exact absurd rfl ha) | (exact absurd rfl hb) | (simp only [mj_step, mj_nx, mj_ldi, mj_ldl, mj_lda, mj_sto, mj_sti, mj_sta, mj_stl, mj_bin, mj_binl, mj_un, mj_jmp, mj_if, mj_tsw, mj_getf, mj_putf, mj_push, mj_nar, mj_anew, mj_iald, mj_bald, mj_lald, mj_iast, mj_bast, mj_last, mj_alen, mj_gets, mj_ldc, mj_ldc2, mj_new, mj_inv, mj_invv, mj_invi, mj_copy, mj_math, mj_invs, mj_iret, mj_aret, mj_vret] at h <;> (repeat' (split at h)) <;> first | (cases h; done) | (cases h; exact ⟨Nat.le_refl _, Nat.le_refl _⟩) | (cases h; exact trivial) | (cases h; exact ⟨Nat.le_succ _, Nat.le_add_right _ _⟩))
theorem mj_run_mono {X : mj_X} : ∀ {n d y pc : Nat} {L : mj_L} {st : List Value} {w wf : mj_W} {out : mj_O}, mj_run X n d y pc L st w = some (out, wf) → mj_le w wf
  | 0, _, _, _, _, _, _, _, _, h => nomatch h
  | n + 1, d, y, pc, L, st, w, wf, out, h => by
    unfold mj_run at h
    split at h
    · cases h
    · split at h
      · cases h
      · split at h
        · cases h
        · next hs => exact mj_le_tr (mj_step_mono hs) (mj_run_mono h)
        · next hs => cases h; exact mj_step_mono hs
        · split at h
          · split at h
            · split at h
              · cases h
              · next hr => exact mj_le_tr (mj_run_mono hr) (mj_run_mono h)
              · next hr =>
                split at h
                · cases h; exact mj_run_mono hr
                · split at h
                  · cases h
                  · split at h
                    · cases h
                    · exact mj_le_tr (mj_run_mono hr) (mj_run_mono h)
            · cases h
          · cases h
