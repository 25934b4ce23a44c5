/-! THE SMALL MACHINE AS A FUNCTION, with equations -/
theorem mj_run_more {X : mj_X} : ∀ {n d y pc : Nat} {L : mj_L} {st : List Value} {w : mj_W} {r : mj_O × mj_W}, mj_run X n d y pc L st w = some r → mj_run X (n + 1) d y pc L st w = some r
  | 0, _, _, _, _, _, _, _, h => nomatch h
  | n + 1, d, y, pc, L, st, w, r, h => by
    rw [mj_run] at h ⊢
    split at h
    · cases h
    · next M hM =>
      split at h
      · cases h
      · next i len hd =>
        split at h
        · cases h
        · next hs => exact mj_run_more h
        · next hs => exact h
        · next z As rest hs =>
          split at h
          · next d' Z hZ =>
            split at h
            · next hlen =>
              rw [if_pos hlen]
              split at h
              · cases h
              · next v w' hr =>
                rw [mj_run_more hr]
                exact mj_run_more h
              · next e w' hr =>
                rw [mj_run_more hr]
                try dsimp only
                split at h
                · next hh => rw [if_pos hh]; exact h
                · next hh =>
                  rw [if_neg hh]
                  split at h
                  · cases h
                  · next hc =>
                    try dsimp only
                    split at h
                    · cases h
                    · exact mj_run_more h
            · cases h
          · cases h
theorem mj_run_ge {X : mj_X} {n m d y pc : Nat} {L : mj_L} {st : List Value} {w : mj_W} {r : mj_O × mj_W} (h : mj_run X n d y pc L st w = some r) (hm : n ≤ m) : mj_run X m d y pc L st w = some r := by
  induction hm with
  | refl => exact h
  | step _ ih => exact mj_run_more ih
noncomputable def mj_exec (X : mj_X) (d y pc : Nat) (L : mj_L) (st : List Value) (w : mj_W) : Option (mj_O × mj_W) :=
  haveI := Classical.propDecidable (∃ r n, mj_run X n d y pc L st w = some r)
  if h : ∃ r n, mj_run X n d y pc L st w = some r then some (Classical.choose h) else none
theorem mj_exec_iff {X : mj_X} {d y pc : Nat} {L : mj_L} {st : List Value} {w : mj_W} {r : mj_O × mj_W} : mj_exec X d y pc L st w = some r ↔ ∃ n, mj_run X n d y pc L st w = some r := by
  unfold mj_exec
  constructor
  · intro h
    split at h
    · next h0 => cases h; exact Classical.choose_spec h0
    · cases h
  · intro ⟨n, hn⟩
    have h0 : ∃ r n, mj_run X n d y pc L st w = some r := ⟨r, n, hn⟩
    rw [dif_pos h0]
    obtain ⟨m, hm⟩ := Classical.choose_spec h0
    have a := mj_run_ge hn (Nat.le_max_left n m)
    have b := mj_run_ge hm (Nat.le_max_right n m)
    exact b.symm.trans a
/-- a call by arguments -/
noncomputable def mj_call (X : mj_X) (d z : Nat) (As : List Value) (w : mj_W) : Option (mj_O × mj_W) := match mj_meth z with
  | some Z => if (mj_sl As).length ≤ Z.2.2.1 then mj_exec X d z 0 (mj_entry Z.2.2.1 As) [] w else none
  | none => none
/-- what follows a call -/
noncomputable def mj_back (X : mj_X) (d y pc : Nat) (L : mj_L) (rest : List Value) (M : mj_M) (q : mj_O × mj_W) : Option (mj_O × mj_W) := match q with
  | (.inl v, w') => mj_exec X d y (pc + 3) L (v.toList ++ rest) w'
  | (.inr e, w') => if M.2.2.2.2.2.2.2 = [] then some (.inr e, w') else match mj_catch M.2.2.2.2.2.1 M.2.2.2.2.2.2.2 pc e with
    | none => none
    | some h => match mj_hand M h L with
      | none => none
      | some (pc', L') => mj_exec X d y pc' L' [] w'
theorem mj_exec_inl {X : mj_X} {d y pc : Nat} {L : mj_L} {st : List Value} {w : mj_W} {M : mj_M} {i : Instr} {len : Nat} {r : mj_T4} (hM : mj_meth y = some M) (hd : decode M.2.1 pc = .ok (i, len)) (hs : mj_step X M i len pc L st w = some (.inl r)) : mj_exec X d y pc L st w = mj_exec X d y r.1 r.2.1 r.2.2.1 r.2.2.2 := by
  apply Option.ext
  intro q
  rw [mj_exec_iff, mj_exec_iff]
  constructor
  · intro ⟨n, hn⟩
    cases n with
    | zero => cases hn
    | succ n =>
      rw [mj_run, hM] at hn
      simp only [hd, hs] at hn
      exact ⟨n, hn⟩
  · intro ⟨n, hn⟩
    refine ⟨n + 1, ?_⟩
    rw [mj_run, hM]
    simp only [hd, hs]
    exact hn
theorem mj_exec_end {X : mj_X} {d y pc : Nat} {L : mj_L} {st : List Value} {w : mj_W} {M : mj_M} {i : Instr} {len : Nat} {r : mj_O × mj_W} (hM : mj_meth y = some M) (hd : decode M.2.1 pc = .ok (i, len)) (hs : mj_step X M i len pc L st w = some (.inr (.inl r))) : mj_exec X d y pc L st w = some r := by
  rw [mj_exec_iff]
  refine ⟨1, ?_⟩
  rw [mj_run, hM]
  simp only [hd, hs]
theorem mj_exec_call {X : mj_X} {d y pc : Nat} {L : mj_L} {st : List Value} {w : mj_W} {M : mj_M} {i : Instr} {len z : Nat} {As rest : List Value} (hM : mj_meth y = some M) (hd : decode M.2.1 pc = .ok (i, len)) (hs : mj_step X M i len pc L st w = some (.inr (.inr (z, As, rest)))) : mj_exec X (d + 1) y pc L st w = (mj_call X d z As w).bind (mj_back X (d + 1) y pc L rest M) := by
  apply Option.ext
  intro q
  rw [mj_exec_iff]
  constructor
  · intro ⟨n, hn⟩
    cases n with
    | zero => cases hn
    | succ n =>
      rw [mj_run, hM] at hn
      simp only [hd, hs] at hn
      split at hn
      · next d' Z hd' hZ =>
        cases hd'
        obtain ⟨hlen, hn⟩ := mj_ifn hn
        rw [mj_call, hZ]
        simp only [if_pos hlen]
        split at hn
        · cases hn
        · next v w' hr =>
          rw [mj_exec_iff.mpr ⟨n, hr⟩]
          simp only [Option.bind_some, mj_back]
          exact mj_exec_iff.mpr ⟨n, hn⟩
        · next e w' hr =>
          rw [mj_exec_iff.mpr ⟨n, hr⟩]
          simp only [Option.bind_some, mj_back]
          split at hn
          · next hh => rw [if_pos hh]; exact hn
          · next hh =>
            rw [if_neg hh]
            split at hn
            · cases hn
            · next hcc =>
              simp only [hcc]
              split at hn
              · cases hn
              · next hh2 =>
                simp only [hh2]
                exact mj_exec_iff.mpr ⟨n, hn⟩
      · cases hn
  · intro hq
    rw [mj_call] at hq
    split at hq
    · next Z hZ =>
      split at hq
      · next hlen =>
        cases hc : mj_exec X d z 0 (mj_entry Z.2.2.1 As) [] w with
        | none => rw [hc] at hq; cases hq
        | some r =>
          rw [hc] at hq
          obtain ⟨n1, h1⟩ := mj_exec_iff.mp hc
          obtain ⟨o, w'⟩ := r
          simp only [Option.bind_some] at hq
          cases o with
          | inl v =>
            simp only [mj_back] at hq
            obtain ⟨n2, h2⟩ := mj_exec_iff.mp hq
            refine ⟨max n1 n2 + 1, ?_⟩
            rw [mj_run, hM]
            simp only [hd, hs, hZ, if_pos hlen, mj_run_ge h1 (Nat.le_max_left n1 n2)]
            exact mj_run_ge h2 (Nat.le_max_right n1 n2)
          | inr e =>
            simp only [mj_back] at hq
            split at hq
            · next hh =>
              refine ⟨n1 + 1, ?_⟩
              rw [mj_run, hM]
              simp only [hd, hs, hZ, if_pos hlen, h1, if_pos hh]
              exact hq
            · next hh =>
              split at hq
              · cases hq
              · next h hcat =>
                split at hq
                · cases hq
                · next pc' L' hhand =>
                  obtain ⟨n2, h2⟩ := mj_exec_iff.mp hq
                  refine ⟨max n1 n2 + 1, ?_⟩
                  rw [mj_run, hM]
                  simp only [hd, hs, hZ, if_pos hlen, mj_run_ge h1 (Nat.le_max_left n1 n2), if_neg hh, hcat, hhand]
                  exact mj_run_ge h2 (Nat.le_max_right n1 n2)
      · cases hq
    · cases hq
