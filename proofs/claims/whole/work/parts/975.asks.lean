/-! questions: class and reference answer alike -/
abbrev k0 : List (Nat × Nat) := []
abbrev k1 : List (Nat × Nat) := [(0, 1)]
abbrev k12 : List (Nat × Nat) := [(0, 1), (1, 2)]
abbrev k2 : List (Nat × Nat) := [(1, 1)]
section
variable {X : mj_X} {A : AS} {x y w n : Int32}
theorem JC_ready (hA : gd A) : JC X 154 285 [] k0 A := Or.inl ⟨_, A, hA, CSv_s (fun d s hI => q154 hA.1.1 hI.1.1), RSv_2 (fun d s hX => m285 hA.1.1)⟩
theorem JC_mildest (hA : gd A) : JC X 155 286 [] k0 A := Or.inl ⟨_, A, hA, CSv_s (fun d s hI => q155 hA.1.1 hI.1.1), RSv_2 (fun d s hX => m286 hA.1.1)⟩
theorem JC_triples (hA : gd A) : JC X 156 287 [] k0 A := Or.inl ⟨_, A, hA, CSv_g (fun d s hI => q156 hA.1.1 hI.1.1), RSv_2 (fun d s hX => m287 hA.1.1)⟩
theorem JC_alone (hA : gd A) : JC X 157 288 [] k0 A := Or.inl ⟨_, A, hA, CSv_g (fun d s hI => q157 hA.1.1 hI.1.1), RSv_2 (fun d s hX => m288 hA.1.1)⟩
theorem JC_single (hA : gd A) : JC X 158 291 [] k0 A := Or.inl ⟨_, A, hA, CSv_s (fun d s hI => q158 hA.1.1 hI.1.1), RSv_2 (fun d s hX => m291 hA.1.1)⟩
theorem JC_cuts (hA : gd A) : JC X 159 292 [] k0 A := Or.inl ⟨_, A, hA, CSv_s (fun d s hI => q159 hA.1.1 hI.1.1), RSv_2 (fun d s hX => m292 hA.1.1)⟩
theorem JC_camps (hA : gd A) : JC X 148 280 [] k0 A := Or.inl ⟨_, A, hA, CSv_g (fun d s hI => q148 hA.1.1 hI.1.1), RSv_2 (fun d s hX => c280 hA.1.1)⟩
theorem JC_drawers (hA : gd A) : JC X 150 282 [] k0 A := Or.inl ⟨_, A, hA, CSv_s (fun d s hI => q150 hA.1.1 hI.1.1), RSv_2 (fun d s hX => m282 hA.1.1)⟩
theorem JC_deaths (hA : gd A) : JC X 151 279 [] k0 A := Or.inl ⟨_, A, hA, CSv_g (fun d s hI => q151 hA.1.1 hI.1.1), RSv_h (fun d s hX => m279 hA.1.1)⟩
theorem JC_peace (hA : gd A) : JC X 147 271 [] k0 A := Or.inl ⟨_, A, hA, CSv_g (fun d s hI => q147 hA.1.1 hI.1.1 hI.2.1 hA.2.1 hA.1.2.1), RSv_h (fun d s hX => m271 hA.1.1 hX.2.1 hA.2.1 hA.1.2.1)⟩
theorem JC_fault (hA : gd A) : JC X 144 225 [] k0 A := Or.inl ⟨mo A.2.2.2.2.2, A, hA, CSv_s (fun d s hI => by rw [q144, hI.2.2.2.2.2]), RSv_2 (fun d s hX => m225 hX.2.2.2.2.2)⟩
theorem JC_friends (hA : gd A) : JC X 182 283 [.int x] k1 A := by
  cases h : ip (A.1.1 55) x
  · exact Or.inr ⟨0, 1, by decide, CSx_ (fun d s hI => x182 hA.1.1 hI.1.1 h), RSx_ (fun d s hX => f283 (wf_n hA.1.1) h)⟩
  · obtain ⟨p, hp, rfl⟩ := ip_x h
    exact Or.inl ⟨_, A, hA, CSv_g (fun d s hI => q182 hA.1.1 hI.1.1 hp), RSv_2 (fun d s hX => m283 hA.1.1 hp)⟩
theorem JC_spared (hA : gd A) : JC X 183 278 [.int x] k1 A := by
  cases h : ip (A.1.1 55) x
  · exact Or.inr ⟨0, 1, by decide, CSx_ (fun d s hI => x183 hA.1.1 hI.1.1 h), RSx_ (fun d s hX => f278 (wf_n hA.1.1) h)⟩
  · obtain ⟨p, hp, rfl⟩ := ip_x h
    exact Or.inl ⟨_, A, hA, CSv_g (fun d s hI => q183 hA.1.1 hI.1.1 hp), RSv_h (fun d s hX => m278 hA.1.1 hp)⟩
theorem JC_match (hA : gd A) : JC X 184 284 [.int x] k1 A := by
  cases h : ip (A.1.1 55) x
  · exact Or.inr ⟨0, 1, by decide, CSx_ (fun d s hI => x184 hA.1.1 hI.1.1 h), RSx_ (fun d s hX => f284 (wf_n hA.1.1) h)⟩
  · obtain ⟨p, hp, rfl⟩ := ip_x h
    exact Or.inl ⟨_, A, hA, CSv_s (fun d s hI => q184 hA.1.1 hI.1.1 hp), RSv_2 (fun d s hX => m284 hA.1.1 hp)⟩
theorem JC_between (hA : gd A) : JC X 181 281 [.int x, .int y] k1 A := by
  cases h : ip (A.1.1 55) x && ip (A.1.1 55) y
  · exact Or.inr ⟨0, 1, by decide, CSx_ (fun d s hI => x181 hA.1.1 hI.1.1 h), RSx_ (fun d s hX => f281 (wf_n hA.1.1) h)⟩
  · obtain ⟨hx, hy⟩ := Bool.and_eq_true_iff.mp h
    obtain ⟨p, hp, rfl⟩ := ip_x hx
    obtain ⟨q, hq, rfl⟩ := ip_x hy
    exact Or.inl ⟨_, A, hA, CSv_g (fun d s hI => q181 hA.1.1 hI.1.1 hp hq), RSv_2 (fun d s hX => m281 hA.1.1 hp hq)⟩
theorem JC_foes (hA : gd A) : JC X 186 289 [.int x, .int y] k1 A := by
  cases h : ip (A.1.1 55) x && ip (A.1.1 55) y
  · exact Or.inr ⟨0, 1, by decide, CSx_ (fun d s hI => x186 hA.1.1 hI.1.1 h), RSx_ (fun d s hX => f289 (wf_n hA.1.1) h)⟩
  · obtain ⟨hx, hy⟩ := Bool.and_eq_true_iff.mp h
    obtain ⟨p, hp, rfl⟩ := ip_x hx
    obtain ⟨q, hq, rfl⟩ := ip_x hy
    exact Or.inl ⟨_, A, hA, CSv_s (fun d s hI => q186 hA.1.1 hI.1.1 hp hq), RSv_2 (fun d s hX => m289 hA.1.1 hp hq)⟩
theorem JC_over (hA : gd A) : JC X 177 270 [.int x, .int y] k1 A := by
  cases h : ip (A.1.1 55) x && ip (A.1.1 55) y
  · exact Or.inr ⟨0, 1, by decide, CSx_ (fun d s hI => x177 hA.1.1 hI.1.1 h), RSx_ (fun d s hX => f270 (wf_n hA.1.1) h)⟩
  · obtain ⟨hx, hy⟩ := Bool.and_eq_true_iff.mp h
    obtain ⟨p, hp, rfl⟩ := ip_x hx
    obtain ⟨q, hq, rfl⟩ := ip_x hy
    exact Or.inl ⟨_, A, hA, CSv_g (fun d s hI => q177 hA.1.1 hI.1.1 hI.2.1 hA.2.1 hA.1.2.1 hp hq), RSv_h (fun d s hX => m270 hA.1.1 hX.2.1 hA.2.1 hA.1.2.1 hp hq)⟩
theorem ib_b {x : Int32} (h : ib 0 1 x = true) : ∃ b : Bool, x = nI b.toNat := by
  obtain ⟨n, -, h1, rfl⟩ := ib_x h
  rcases (show n = 0 ∨ n = 1 by omega) with rfl | rfl
  · exact ⟨false, rfl⟩
  · exact ⟨true, rfl⟩
theorem JC_word (hA : gd A) : JC X 187 290 [.int x] k1 A := by
  cases h : ib 0 9 x
  · exact Or.inr ⟨0, 1, by decide, CSx_ (fun d s hI => x187 h), RSx_ (fun d s hX => f290 h)⟩
  · obtain ⟨k, -, hk, rfl⟩ := ib_x h
    exact Or.inl ⟨_, A, hA, CSv_s (fun d s hI => q187 hA.1.1 hI.1.1 hk), RSv_2 (fun d s hX => m290 hA.1.1 (by omega))⟩
theorem JC_nerved (hA : gd A) : JC X 189 294 [.int x] k1 A := by
  cases h : ib 0 2 x
  · exact Or.inr ⟨0, 1, by decide, CSx_ (fun d s hI => x189 h), RSx_ (fun d s hX => f294 h)⟩
  · obtain ⟨k, -, hk, rfl⟩ := ib_x h
    exact Or.inl ⟨_, A, hA, CSv_g (fun d s hI => q189 hA.1.1 hI.1.1 hA.1.2.1 hI.2.1 hA.2.1 hI.1.2.2.1 hA.1.2.2.1 hk), RSv_h (fun d s hX => m294 hA.1.1 hX.2.1 hA.2.1 hA.1.2.1 hX.1.2.1 hA.1.2.2.1 hk)⟩
theorem JC_look (hA : gd A) : JC X 190 297 [.int x] k1 A := by
  cases h : ib 0 1 x
  · exact Or.inr ⟨0, 1, by decide, CSx_ (fun d s hI => x190 h), RSx_ (fun d s hX => f297 h)⟩
  · obtain ⟨b, rfl⟩ := ib_b h
    exact Or.inl ⟨_, A, hA, CSv_g (fun d s hI => q190 hA.1.1 hI.1.1 hA.1.2.1 hI.2.1 hA.2.1 hI.1.2.2.1 hA.1.2.2.1), RSv_h (fun d s hX => m297 hA.1.1 hX.2.1 hA.2.1 hA.1.2.1 hX.1.2.1 hA.1.2.2.1)⟩
theorem JC_coldest (hA : gd A) : JC X 185 275 [.int x] k2 A := by
  cases h : ib 0 60 x
  · exact Or.inr ⟨1, 1, by decide, CSx_ (fun d s hI => x185 h), RSx_ (fun d s hX => f275 h)⟩
  · obtain ⟨k, -, hk, rfl⟩ := ib_x h
    exact Or.inl ⟨_, A, hA, CSv_g (fun d s hI => q185 hA.1.1 hI.1.1 hI.2.1 hA.2.1 hA.1.2.1 hk), RSv_h (fun d s hX => m275 hA.1.1 hX.2.1 hA.2.1 hA.1.2.1 hk)⟩
theorem JC_later (hA : gd A) : JC X 178 272 [.int n, .int w] k12 A := by
  cases h : ib 0 2 w
  · exact Or.inr ⟨0, 1, by decide, CSx_ (fun d s hI => x178 h), RSx_ (fun d s hX => f272 h)⟩
  · cases h2 : ib 0 60 n
    · exact Or.inr ⟨1, 2, by decide, CSx_ (fun d s hI => x178n h h2), RSx_ (fun d s hX => f272n h h2)⟩
    · obtain ⟨k, -, hk, rfl⟩ := ib_x h
      obtain ⟨m, -, hm, rfl⟩ := ib_x h2
      exact Or.inl ⟨_, A, hA, CSv_g (fun d s hI => q178 hA.1.1 hI.1.1 hI.2.1 hA.2.1 hA.1.2.1 hm hk), RSv_h (fun d s hX => m272 hA.1.1 hX.2.1 hA.2.1 hA.1.2.1 hm hk)⟩
theorem JC_years (hA : gd A) : JC X 192 303 [.int x, .int n, .int w] k12 A := by
  cases h : ib 0 2 w
  · exact Or.inr ⟨0, 1, by decide, CSx_ (fun d s hI => x192 h), RSx_ (fun d s hX => f303 h)⟩
  · cases h2 : ib 0 60 n
    · exact Or.inr ⟨1, 2, by decide, CSx_ (fun d s hI => x192n h h2), RSx_ (fun d s hX => f303n h h2)⟩
    · obtain ⟨k, -, hk, rfl⟩ := ib_x h
      obtain ⟨m, -, hm, rfl⟩ := ib_x h2
      exact Or.inl ⟨_, A, hA, CSv_g (fun d s hI => q192 hA.1.1 hI.1.1 hI.2.1 hA.2.1 hA.1.2.1 hm hk), RSv_h (fun d s hX => m303 hA.1.1 hX.2.1 hA.2.1 hA.1.2.1 hm hk)⟩
theorem JC_comes (hA : gd A) : JC X 180 277 [.int x, .int w] k1 A := by
  cases h : ip (A.1.1 55) x && ib 0 1 w
  · exact Or.inr ⟨0, 1, by decide, CSx_ (fun d s hI => x180 hA.1.1 hI.1.1 h), RSx_ (fun d s hX => f277 (wf_n hA.1.1) h)⟩
  · obtain ⟨hx, hy⟩ := Bool.and_eq_true_iff.mp h
    obtain ⟨p, hp, rfl⟩ := ip_x hx
    obtain ⟨b, rfl⟩ := ib_b hy
    exact Or.inl ⟨_, A, hA, CSv_g (fun d s hI => q180 hA.1.1 hI.1.1 hp), RSv_h (fun d s hX => m277 hA.1.1 hp)⟩
theorem JC_then (hA : gd A) : JC X 174 269 [.int x, .int y, .int n, .int w] k12 A := by
  cases h : ip (A.1.1 55) x && (ip (A.1.1 55) y && ib 0 1 w)
  · exact Or.inr ⟨0, 1, by decide, CSx_ (fun d s hI => x174 hA.1.1 hI.1.1 h), RSx_ (fun d s hX => f269 (wf_n hA.1.1) h)⟩
  · obtain ⟨hx, h2⟩ := Bool.and_eq_true_iff.mp h
    obtain ⟨hy, h3⟩ := Bool.and_eq_true_iff.mp h2
    obtain ⟨p, hp, rfl⟩ := ip_x hx
    obtain ⟨q, hq, rfl⟩ := ip_x hy
    obtain ⟨b, rfl⟩ := ib_b h3
    cases h4 : ib 0 60 n
    · exact Or.inr ⟨1, 2, by decide, CSx_ (fun d s hI => x174n hA.1.1 hI.1.1 hp hq h4), RSx_ (fun d s hX => f269n (wf_n hA.1.1) hp hq h4)⟩
    · obtain ⟨m, -, hm, rfl⟩ := ib_x h4
      exact Or.inl ⟨_, A, hA, CSv_g (fun d s hI => q174 hA.1.1 hI.1.1 hI.2.1 hA.2.1 hA.1.2.1 hp hq hm), RSv_h (fun d s hX => m269 hA.1.1 hX.2.1 hA.2.1 hA.1.2.1 hp hq hm)⟩
theorem JC_game (hA : gd A) : JC X 191 300 [.int x, .int y, .int w] k12 A := by
  cases h : ip (A.1.1 55) x && (ip (A.1.1 55) y && ib 0 1 w)
  · exact Or.inr ⟨0, 1, by decide, CSx_ (fun d s hI => x191 hA.1.1 hI.1.1 h), RSx_ (fun d s hX => f300 (wf_n hA.1.1) h)⟩
  · obtain ⟨hx, h2⟩ := Bool.and_eq_true_iff.mp h
    obtain ⟨hy, h3⟩ := Bool.and_eq_true_iff.mp h2
    obtain ⟨p, hp, rfl⟩ := ip_x hx
    obtain ⟨q, hq, rfl⟩ := ip_x hy
    obtain ⟨b, rfl⟩ := ib_b h3
    by_cases e : p = q
    · subst e
      exact Or.inr ⟨1, 2, by decide, CSx_ (fun d s hI => x191s hA.1.1 hI.1.1 hp), RSx_ (fun d s hX => f300s (wf_n hA.1.1) hp)⟩
    · exact Or.inl ⟨_, A, hA, CSv_g (fun d s hI => q191 hA.1.1 hI.1.1 hI.2.1 hA.2.1 hA.1.2.1 hp hq e), RSv_h (fun d s hX => m300 hA.1.1 hX.2.1 hA.2.1 hA.1.2.1 hp hq e)⟩
theorem JC_person (hA : gd A) : JC X 165 238 [.int x, .int w] k1 A := by
  cases h : ip (A.1.1 55) x
  · exact Or.inr ⟨0, 1, by decide, CSx_ (fun d s hI => x165 hA.1.1 hI.1.1 h), RSx_ (fun d s hX => f238 (wf_n hA.1.1) h)⟩
  · cases h2 : ib 0 6 w
    · obtain ⟨p, hp, rfl⟩ := ip_x h
      exact Or.inr ⟨0, 1, by decide, CSx_ (fun d s hI => x165w hA.1.1 hI.1.1 hp h2), RSx_ (fun d s hX => f238w (wf_n hA.1.1) h h2)⟩
    · obtain ⟨p, hp, rfl⟩ := ip_x h
      obtain ⟨k, -, hk, rfl⟩ := ib_x h2
      exact Or.inl ⟨_, A, hA, CSv_s (fun d s hI => q165 hA.1.1 hI.1.1 hp hk), RSv_2 (fun d s hX => m238 hA.1.1 hp hk)⟩
theorem JC_quarrel (hA : gd A) : JC X 167 242 [.int x, .int y, .int w] k1 A := by
  cases h : ip (A.1.1 55) x && (ip (A.1.1 55) y && ib 0 4 w)
  · exact Or.inr ⟨0, 1, by decide, CSx_ (fun d s hI => x167 hA.1.1 hI.1.1 h), RSx_ (fun d s hX => f242 (wf_n hA.1.1) h)⟩
  · obtain ⟨hx, h2⟩ := Bool.and_eq_true_iff.mp h
    obtain ⟨hy, h3⟩ := Bool.and_eq_true_iff.mp h2
    obtain ⟨p, hp, rfl⟩ := ip_x hx
    obtain ⟨q, hq, rfl⟩ := ip_x hy
    obtain ⟨k, -, hk, rfl⟩ := ib_x h3
    exact Or.inl ⟨_, A, hA, CSv_g (fun d s hI => q167 hA.1.1 hI.1.1 hI.2.1 hA.2.1 hp hq hk), RSv_h (fun d s hX => m242 hA.1.1 hX.2.1 hA.2.1 hp hq hk)⟩
theorem JC_count (hA : gd A) : JC X 164 226 [.int x] k1 A := by
  cases h : ib 0 13 x
  · exact Or.inr ⟨0, 1, by decide, CSx_ (fun d s hI => x164 h), RSx_ (fun d s hX => f226 h)⟩
  · obtain ⟨k, -, hk, rfl⟩ := ib_x h
    by_cases q5 : k ≤ 5
    · exact Or.inl ⟨_, A, hA, CSv_s (fun d s hI => q164 hA.1.1 hI.1.1 q5), RSv_2 (fun d s hX => m226 hA.1.1 (Or.inl q5))⟩
    rcases (show k = 6 ∨ k = 7 ∨ k = 8 ∨ k = 9 ∨ k = 10 ∨ 11 ≤ k by omega) with rfl | rfl | rfl | rfl | rfl | q
    · exact Or.inl ⟨_, A, hA, CSv_g (fun d s hI => q164t hA.1.1 hI.1.1), RSv_h (fun d s hX => m226t hA.1.1)⟩
    · exact Or.inl ⟨_, A, hA, CSv_g (fun d s hI => q164a hA.1.1 hI.1.1), RSv_2 (fun d s hX => m226 hA.1.1 (Or.inr rfl))⟩
    · exact Or.inl ⟨_, A, hA, CSv_s (fun d s hI => q164v (Or.inl rfl) hI.1.2.1.2.1), RSv_2 (fun d s hX => m226v (Or.inl rfl) hX.1.1.2.1)⟩
    · exact Or.inl ⟨_, A, hA, CSv_s (fun d s hI => q164v (Or.inr (Or.inl rfl)) hI.1.2.2.1.1), RSv_2 (fun d s hX => m226v (Or.inr (Or.inl rfl)) hX.1.2.1.1)⟩
    · exact Or.inl ⟨_, A, hA, CSv_s (fun d s hI => q164v (Or.inr (Or.inr rfl)) hI.2.2.2.2.1.2.1), RSv_2 (fun d s hX => m226v (Or.inr (Or.inr rfl)) hX.2.2.2.2.1.2.1)⟩
    · obtain ⟨m, rfl⟩ : ∃ m, k = 11 + m := ⟨k - 11, by omega⟩
      exact Or.inl ⟨_, A, hA, CSv_s (fun d s hI => q164s (by omega) (hI.1.2.2.2 m (by omega))), RSv_2 (fun d s hX => m226s (by omega) (hX.1.2.2 m (by omega)))⟩
end
