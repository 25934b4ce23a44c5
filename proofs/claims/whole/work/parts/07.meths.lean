/-! the methods of the small machine are the tables': printed by wip/whole/gen07.py -/
def mj_cw (M : mj_M) : Cond := match M.2.2.2.2.2.2.2 with
  | [] => .code M.1 M.2.1 M.2.2.1 M.2.2.2.1
  | hh => .codeWith M.1 M.2.1 M.2.2.1 M.2.2.2.1 hh
def mj_mok (M : mj_M) : Prop := mj_cw M ∈ mj_tbl ∧ M.1.cls = mj_cls M.2.2.2.2.2.1 ∧ Cond.initialized M.1.cls ∈ mj_tbl ∧ (M.1.cls ≠ "java/lang/invoke/MethodHandle" ∧ M.1.cls ≠ "java/lang/invoke/VarHandle" ∧ (parseMethodDescriptor M.1.desc).map (fun d => d.parameters.length) = some M.2.2.2.2.1) ∧ plainName M.1.cls = true ∧ M.2.2.1 ≤ 40 ∧ (M.2.2.2.2.2.2.1 = true → M.1.name = "<init>")
theorem mj_m0 : ∀ M, mj_ms0[0]? = some M → mj_mok M := fun M h => by
  cases h
  exact ⟨(mj_tw (mj_i1 (List.mem_of_getElem? (i := 39) rfl)) rfl), rfl, (mj_tw (mj_i1 (List.mem_of_getElem? (i := 2) rfl)) rfl), ⟨by decide, by decide, by decide +kernel⟩, by decide, by decide, (fun _ => rfl)⟩
theorem mj_m1 : ∀ M, mj_ms0[1]? = some M → mj_mok M := fun M h => by
  cases h
  exact ⟨(mj_tw (mj_i2 (List.mem_of_getElem? (i := 27) rfl)) rfl), rfl, (mj_tw (mj_i1 (List.mem_of_getElem? (i := 2) rfl)) rfl), ⟨by decide, by decide, by decide +kernel⟩, by decide, by decide, (fun h => absurd h (by decide))⟩
theorem mj_m2 : ∀ M, mj_ms0[2]? = some M → mj_mok M := fun M h => by
  cases h
  exact ⟨(mj_tw (mj_i2 (List.mem_of_getElem? (i := 35) rfl)) rfl), rfl, (mj_tw (mj_i1 (List.mem_of_getElem? (i := 2) rfl)) rfl), ⟨by decide, by decide, by decide +kernel⟩, by decide, by decide, (fun h => absurd h (by decide))⟩
theorem mj_m3 : ∀ M, mj_ms0[3]? = some M → mj_mok M := fun M h => by
  cases h
  exact ⟨(mj_tw (mj_i2 (List.mem_of_getElem? (i := 39) rfl)) rfl), rfl, (mj_tw (mj_i1 (List.mem_of_getElem? (i := 2) rfl)) rfl), ⟨by decide, by decide, by decide +kernel⟩, by decide, by decide, (fun h => absurd h (by decide))⟩
theorem mj_m4 : ∀ M, mj_ms0[4]? = some M → mj_mok M := fun M h => by
  cases h
  exact ⟨(mj_tw (mj_i2 (List.mem_of_getElem? (i := 152) rfl)) rfl), rfl, (mj_tw (mj_i1 (List.mem_of_getElem? (i := 2) rfl)) rfl), ⟨by decide, by decide, by decide +kernel⟩, by decide, by decide, (fun h => absurd h (by decide))⟩
theorem mj_m5 : ∀ M, mj_ms0[5]? = some M → mj_mok M := fun M h => by
  cases h
  exact ⟨(mj_tw (mj_i3 (List.mem_of_getElem? (i := 64) rfl)) rfl), rfl, (mj_tw (mj_i1 (List.mem_of_getElem? (i := 2) rfl)) rfl), ⟨by decide, by decide, by decide +kernel⟩, by decide, by decide, (fun h => absurd h (by decide))⟩
theorem mj_m6 : ∀ M, mj_ms0[6]? = some M → mj_mok M := fun M h => by
  cases h
  exact ⟨(mj_tw (mj_i3 (List.mem_of_getElem? (i := 72) rfl)) rfl), rfl, (mj_tw (mj_i1 (List.mem_of_getElem? (i := 2) rfl)) rfl), ⟨by decide, by decide, by decide +kernel⟩, by decide, by decide, (fun h => absurd h (by decide))⟩
theorem mj_m7 : ∀ M, mj_ms0[7]? = some M → mj_mok M := fun M h => by
  cases h
  exact ⟨(mj_tw (mj_i4 (List.mem_of_getElem? (i := 211) rfl)) rfl), rfl, (mj_tw (mj_i1 (List.mem_of_getElem? (i := 2) rfl)) rfl), ⟨by decide, by decide, by decide +kernel⟩, by decide, by decide, (fun h => absurd h (by decide))⟩
theorem mj_m8 : ∀ M, mj_ms0[8]? = some M → mj_mok M := fun M h => by
  cases h
  exact ⟨(mj_tw (mj_i5 (List.mem_of_getElem? (i := 19) rfl)) rfl), rfl, (mj_tw (mj_i1 (List.mem_of_getElem? (i := 2) rfl)) rfl), ⟨by decide, by decide, by decide +kernel⟩, by decide, by decide, (fun h => absurd h (by decide))⟩
theorem mj_m9 : ∀ M, mj_ms0[9]? = some M → mj_mok M := fun M h => by
  cases h
  exact ⟨(mj_tw (mj_i5 (List.mem_of_getElem? (i := 23) rfl)) rfl), rfl, (mj_tw (mj_i1 (List.mem_of_getElem? (i := 2) rfl)) rfl), ⟨by decide, by decide, by decide +kernel⟩, by decide, by decide, (fun h => absurd h (by decide))⟩
theorem mj_m10 : ∀ M, mj_ms0[10]? = some M → mj_mok M := fun M h => by
  cases h
  exact ⟨(mj_tw (mj_i5 (List.mem_of_getElem? (i := 27) rfl)) rfl), rfl, (mj_tw (mj_i1 (List.mem_of_getElem? (i := 2) rfl)) rfl), ⟨by decide, by decide, by decide +kernel⟩, by decide, by decide, (fun h => absurd h (by decide))⟩
theorem mj_m11 : ∀ M, mj_ms0[11]? = some M → mj_mok M := fun M h => by
  cases h
  exact ⟨(mj_tw (mj_i6 (List.mem_of_getElem? (i := 27) rfl)) rfl), rfl, (mj_tw (mj_i1 (List.mem_of_getElem? (i := 2) rfl)) rfl), ⟨by decide, by decide, by decide +kernel⟩, by decide, by decide, (fun h => absurd h (by decide))⟩
theorem mj_m12 : ∀ M, mj_ms0[12]? = some M → mj_mok M := fun M h => by
  cases h
  exact ⟨(mj_tw (mj_i6 (List.mem_of_getElem? (i := 52) rfl)) rfl), rfl, (mj_tw (mj_i1 (List.mem_of_getElem? (i := 2) rfl)) rfl), ⟨by decide, by decide, by decide +kernel⟩, by decide, by decide, (fun h => absurd h (by decide))⟩
theorem mj_m13 : ∀ M, mj_ms0[13]? = some M → mj_mok M := fun M h => by
  cases h
  exact ⟨(mj_tw (mj_i6 (List.mem_of_getElem? (i := 58) rfl)) rfl), rfl, (mj_tw (mj_i1 (List.mem_of_getElem? (i := 2) rfl)) rfl), ⟨by decide, by decide, by decide +kernel⟩, by decide, by decide, (fun h => absurd h (by decide))⟩
theorem mj_m14 : ∀ M, mj_ms0[14]? = some M → mj_mok M := fun M h => by
  cases h
  exact ⟨(mj_tw (mj_i1 (List.mem_of_getElem? (i := 167) rfl)) rfl), rfl, (mj_tw (mj_i1 (List.mem_of_getElem? (i := 7) rfl)) rfl), ⟨by decide, by decide, by decide +kernel⟩, by decide, by decide, (fun _ => rfl)⟩
theorem mj_m15 : ∀ M, mj_ms0[15]? = some M → mj_mok M := fun M h => by
  cases h
  exact ⟨(mj_tw (mj_i2 (List.mem_of_getElem? (i := 176) rfl)) rfl), rfl, (mj_tw (mj_i1 (List.mem_of_getElem? (i := 7) rfl)) rfl), ⟨by decide, by decide, by decide +kernel⟩, by decide, by decide, (fun h => absurd h (by decide))⟩
theorem mj_m16 : ∀ M, mj_ms0[16]? = some M → mj_mok M := fun M h => by
  cases h
  exact ⟨(mj_tw (mj_i2 (List.mem_of_getElem? (i := 185) rfl)) rfl), rfl, (mj_tw (mj_i1 (List.mem_of_getElem? (i := 7) rfl)) rfl), ⟨by decide, by decide, by decide +kernel⟩, by decide, by decide, (fun h => absurd h (by decide))⟩
theorem mj_m17 : ∀ M, mj_ms0[17]? = some M → mj_mok M := fun M h => by
  cases h
  exact ⟨(mj_tw (mj_i2 (List.mem_of_getElem? (i := 192) rfl)) rfl), rfl, (mj_tw (mj_i1 (List.mem_of_getElem? (i := 7) rfl)) rfl), ⟨by decide, by decide, by decide +kernel⟩, by decide, by decide, (fun h => absurd h (by decide))⟩
theorem mj_m18 : ∀ M, mj_ms0[18]? = some M → mj_mok M := fun M h => by
  cases h
  exact ⟨(mj_tw (mj_i3 (List.mem_of_getElem? (i := 35) rfl)) rfl), rfl, (mj_tw (mj_i1 (List.mem_of_getElem? (i := 7) rfl)) rfl), ⟨by decide, by decide, by decide +kernel⟩, by decide, by decide, (fun h => absurd h (by decide))⟩
theorem mj_m19 : ∀ M, mj_ms0[19]? = some M → mj_mok M := fun M h => by
  cases h
  exact ⟨(mj_tw (mj_i3 (List.mem_of_getElem? (i := 46) rfl)) rfl), rfl, (mj_tw (mj_i1 (List.mem_of_getElem? (i := 7) rfl)) rfl), ⟨by decide, by decide, by decide +kernel⟩, by decide, by decide, (fun h => absurd h (by decide))⟩
theorem mj_m20 : ∀ M, mj_ms0[20]? = some M → mj_mok M := fun M h => by
  cases h
  exact ⟨(mj_tw (mj_i4 (List.mem_of_getElem? (i := 238) rfl)) rfl), rfl, (mj_tw (mj_i1 (List.mem_of_getElem? (i := 7) rfl)) rfl), ⟨by decide, by decide, by decide +kernel⟩, by decide, by decide, (fun h => absurd h (by decide))⟩
theorem mj_m21 : ∀ M, mj_ms0[21]? = some M → mj_mok M := fun M h => by
  cases h
  exact ⟨(mj_tw (mj_i5 (List.mem_of_getElem? (i := 2) rfl)) rfl), rfl, (mj_tw (mj_i1 (List.mem_of_getElem? (i := 7) rfl)) rfl), ⟨by decide, by decide, by decide +kernel⟩, by decide, by decide, (fun h => absurd h (by decide))⟩
theorem mj_m22 : ∀ M, mj_ms0[22]? = some M → mj_mok M := fun M h => by
  cases h
  exact ⟨(mj_tw (mj_i5 (List.mem_of_getElem? (i := 6) rfl)) rfl), rfl, (mj_tw (mj_i1 (List.mem_of_getElem? (i := 7) rfl)) rfl), ⟨by decide, by decide, by decide +kernel⟩, by decide, by decide, (fun h => absurd h (by decide))⟩
theorem mj_m23 : ∀ M, mj_ms0[23]? = some M → mj_mok M := fun M h => by
  cases h
  exact ⟨(mj_tw (mj_i5 (List.mem_of_getElem? (i := 10) rfl)) rfl), rfl, (mj_tw (mj_i1 (List.mem_of_getElem? (i := 7) rfl)) rfl), ⟨by decide, by decide, by decide +kernel⟩, by decide, by decide, (fun h => absurd h (by decide))⟩
theorem mj_m24 : ∀ M, mj_ms0[24]? = some M → mj_mok M := fun M h => by
  cases h
  exact ⟨(mj_tw (mj_i5 (List.mem_of_getElem? (i := 15) rfl)) rfl), rfl, (mj_tw (mj_i1 (List.mem_of_getElem? (i := 7) rfl)) rfl), ⟨by decide, by decide, by decide +kernel⟩, by decide, by decide, (fun h => absurd h (by decide))⟩
theorem mj_m25 : ∀ M, mj_ms0[25]? = some M → mj_mok M := fun M h => by
  cases h
  exact ⟨(mj_tw (mj_i5 (List.mem_of_getElem? (i := 191) rfl)) rfl), rfl, (mj_tw (mj_i1 (List.mem_of_getElem? (i := 7) rfl)) rfl), ⟨by decide, by decide, by decide +kernel⟩, by decide, by decide, (fun h => absurd h (by decide))⟩
theorem mj_m26 : ∀ M, mj_ms0[26]? = some M → mj_mok M := fun M h => by
  cases h
  exact ⟨(mj_tw (mj_i5 (List.mem_of_getElem? (i := 195) rfl)) rfl), rfl, (mj_tw (mj_i1 (List.mem_of_getElem? (i := 7) rfl)) rfl), ⟨by decide, by decide, by decide +kernel⟩, by decide, by decide, (fun h => absurd h (by decide))⟩
theorem mj_m27 : ∀ M, mj_ms0[27]? = some M → mj_mok M := fun M h => by
  cases h
  exact ⟨(mj_tw (mj_i5 (List.mem_of_getElem? (i := 206) rfl)) rfl), rfl, (mj_tw (mj_i1 (List.mem_of_getElem? (i := 7) rfl)) rfl), ⟨by decide, by decide, by decide +kernel⟩, by decide, by decide, (fun h => absurd h (by decide))⟩
theorem mj_m28 : ∀ M, mj_ms0[28]? = some M → mj_mok M := fun M h => by
  cases h
  exact ⟨(mj_tw (mj_i1 (List.mem_of_getElem? (i := 203) rfl)) rfl), rfl, (mj_tw (mj_i1 (List.mem_of_getElem? (i := 9) rfl)) rfl), ⟨by decide, by decide, by decide +kernel⟩, by decide, by decide, (fun _ => rfl)⟩
theorem mj_m29 : ∀ M, mj_ms0[29]? = some M → mj_mok M := fun M h => by
  cases h
  exact ⟨(mj_tw (mj_i6 (List.mem_of_getElem? (i := 137) rfl)) rfl), rfl, (mj_tw (mj_i1 (List.mem_of_getElem? (i := 9) rfl)) rfl), ⟨by decide, by decide, by decide +kernel⟩, by decide, by decide, (fun h => absurd h (by decide))⟩
theorem mj_m30 : ∀ M, mj_ms0[30]? = some M → mj_mok M := fun M h => by
  cases h
  exact ⟨(mj_tw (mj_i6 (List.mem_of_getElem? (i := 141) rfl)) rfl), rfl, (mj_tw (mj_i1 (List.mem_of_getElem? (i := 9) rfl)) rfl), ⟨by decide, by decide, by decide +kernel⟩, by decide, by decide, (fun h => absurd h (by decide))⟩
theorem mj_m31 : ∀ M, mj_ms0[31]? = some M → mj_mok M := fun M h => by
  cases h
  exact ⟨(mj_tw (mj_i6 (List.mem_of_getElem? (i := 147) rfl)) rfl), rfl, (mj_tw (mj_i1 (List.mem_of_getElem? (i := 9) rfl)) rfl), ⟨by decide, by decide, by decide +kernel⟩, by decide, by decide, (fun h => absurd h (by decide))⟩
theorem mj_m32 : ∀ M, mj_ms0[32]? = some M → mj_mok M := fun M h => by
  cases h
  exact ⟨(mj_tw (mj_i6 (List.mem_of_getElem? (i := 153) rfl)) rfl), rfl, (mj_tw (mj_i1 (List.mem_of_getElem? (i := 9) rfl)) rfl), ⟨by decide, by decide, by decide +kernel⟩, by decide, by decide, (fun h => absurd h (by decide))⟩
theorem mj_m33 : ∀ M, mj_ms0[33]? = some M → mj_mok M := fun M h => by
  cases h
  exact ⟨(mj_tw (mj_i1 (List.mem_of_getElem? (i := 45) rfl)) rfl), rfl, (mj_tw (mj_i1 (List.mem_of_getElem? (i := 3) rfl)) rfl), ⟨by decide, by decide, by decide +kernel⟩, by decide, by decide, (fun _ => rfl)⟩
theorem mj_m34 : ∀ M, mj_ms0[34]? = some M → mj_mok M := fun M h => by
  cases h
  exact ⟨(mj_tw (mj_i2 (List.mem_of_getElem? (i := 31) rfl)) rfl), rfl, (mj_tw (mj_i1 (List.mem_of_getElem? (i := 3) rfl)) rfl), ⟨by decide, by decide, by decide +kernel⟩, by decide, by decide, (fun h => absurd h (by decide))⟩
theorem mj_m35 : ∀ M, mj_ms0[35]? = some M → mj_mok M := fun M h => by
  cases h
  exact ⟨(mj_tw (mj_i2 (List.mem_of_getElem? (i := 43) rfl)) rfl), rfl, (mj_tw (mj_i1 (List.mem_of_getElem? (i := 3) rfl)) rfl), ⟨by decide, by decide, by decide +kernel⟩, by decide, by decide, (fun h => absurd h (by decide))⟩
theorem mj_m36 : ∀ M, mj_ms0[36]? = some M → mj_mok M := fun M h => by
  cases h
  exact ⟨(mj_tw (mj_i2 (List.mem_of_getElem? (i := 54) rfl)) rfl), rfl, (mj_tw (mj_i1 (List.mem_of_getElem? (i := 3) rfl)) rfl), ⟨by decide, by decide, by decide +kernel⟩, by decide, by decide, (fun h => absurd h (by decide))⟩
theorem mj_m37 : ∀ M, mj_ms0[37]? = some M → mj_mok M := fun M h => by
  cases h
  exact ⟨(mj_tw (mj_i2 (List.mem_of_getElem? (i := 58) rfl)) rfl), rfl, (mj_tw (mj_i1 (List.mem_of_getElem? (i := 3) rfl)) rfl), ⟨by decide, by decide, by decide +kernel⟩, by decide, by decide, (fun h => absurd h (by decide))⟩
theorem mj_m38 : ∀ M, mj_ms0[38]? = some M → mj_mok M := fun M h => by
  cases h
  exact ⟨(mj_tw (mj_i2 (List.mem_of_getElem? (i := 75) rfl)) rfl), rfl, (mj_tw (mj_i1 (List.mem_of_getElem? (i := 3) rfl)) rfl), ⟨by decide, by decide, by decide +kernel⟩, by decide, by decide, (fun h => absurd h (by decide))⟩
theorem mj_m39 : ∀ M, mj_ms0[39]? = some M → mj_mok M := fun M h => by
  cases h
  exact ⟨(mj_tw (mj_i2 (List.mem_of_getElem? (i := 78) rfl)) rfl), rfl, (mj_tw (mj_i1 (List.mem_of_getElem? (i := 3) rfl)) rfl), ⟨by decide, by decide, by decide +kernel⟩, by decide, by decide, (fun h => absurd h (by decide))⟩
theorem mj_mq0 (i : Nat) (M : mj_M) (h : mj_ms0[i]? = some M) (hl : M.1.name ≠ "law") : mj_mok M := by
  match i, h with
  | 0, h => exact mj_m0 M h
  | 1, h => exact mj_m1 M h
  | 2, h => exact mj_m2 M h
  | 3, h => exact mj_m3 M h
  | 4, h => exact mj_m4 M h
  | 5, h => exact mj_m5 M h
  | 6, h => exact mj_m6 M h
  | 7, h => exact mj_m7 M h
  | 8, h => exact mj_m8 M h
  | 9, h => exact mj_m9 M h
  | 10, h => exact mj_m10 M h
  | 11, h => exact mj_m11 M h
  | 12, h => exact mj_m12 M h
  | 13, h => exact mj_m13 M h
  | 14, h => exact mj_m14 M h
  | 15, h => exact mj_m15 M h
  | 16, h => exact mj_m16 M h
  | 17, h => exact mj_m17 M h
  | 18, h => exact mj_m18 M h
  | 19, h => exact mj_m19 M h
  | 20, h => exact mj_m20 M h
  | 21, h => exact mj_m21 M h
  | 22, h => exact mj_m22 M h
  | 23, h => exact mj_m23 M h
  | 24, h => exact mj_m24 M h
  | 25, h => exact mj_m25 M h
  | 26, h => exact mj_m26 M h
  | 27, h => exact mj_m27 M h
  | 28, h => exact mj_m28 M h
  | 29, h => exact mj_m29 M h
  | 30, h => exact mj_m30 M h
  | 31, h => exact mj_m31 M h
  | 32, h => exact mj_m32 M h
  | 33, h => exact mj_m33 M h
  | 34, h => exact mj_m34 M h
  | 35, h => exact mj_m35 M h
  | 36, h => exact mj_m36 M h
  | 37, h => exact mj_m37 M h
  | 38, h => exact mj_m38 M h
  | 39, h => exact mj_m39 M h
  | i + 40, h => simp [mj_ms0] at h
theorem mj_m40 : ∀ M, mj_ms1[0]? = some M → mj_mok M := fun M h => by
  cases h
  exact ⟨(mj_tw (mj_i2 (List.mem_of_getElem? (i := 85) rfl)) rfl), rfl, (mj_tw (mj_i1 (List.mem_of_getElem? (i := 3) rfl)) rfl), ⟨by decide, by decide, by decide +kernel⟩, by decide, by decide, (fun h => absurd h (by decide))⟩
theorem mj_m41 : ∀ M, mj_ms1[1]? = some M → mj_mok M := fun M h => by
  cases h
  exact ⟨(mj_tw (mj_i2 (List.mem_of_getElem? (i := 95) rfl)) rfl), rfl, (mj_tw (mj_i1 (List.mem_of_getElem? (i := 3) rfl)) rfl), ⟨by decide, by decide, by decide +kernel⟩, by decide, by decide, (fun h => absurd h (by decide))⟩
theorem mj_m42 : ∀ M, mj_ms1[2]? = some M → mj_mok M := fun M h => by
  cases h
  exact ⟨(mj_tw (mj_i2 (List.mem_of_getElem? (i := 121) rfl)) rfl), rfl, (mj_tw (mj_i1 (List.mem_of_getElem? (i := 3) rfl)) rfl), ⟨by decide, by decide, by decide +kernel⟩, by decide, by decide, (fun h => absurd h (by decide))⟩
theorem mj_m43 : ∀ M, mj_ms1[3]? = some M → mj_mok M := fun M h => by
  cases h
  exact ⟨(mj_tw (mj_i2 (List.mem_of_getElem? (i := 127) rfl)) rfl), rfl, (mj_tw (mj_i1 (List.mem_of_getElem? (i := 3) rfl)) rfl), ⟨by decide, by decide, by decide +kernel⟩, by decide, by decide, (fun h => absurd h (by decide))⟩
theorem mj_m44 : ∀ M, mj_ms1[4]? = some M → mj_mok M := fun M h => by
  cases h
  exact ⟨(mj_tw (mj_i2 (List.mem_of_getElem? (i := 139) rfl)) rfl), rfl, (mj_tw (mj_i1 (List.mem_of_getElem? (i := 3) rfl)) rfl), ⟨by decide, by decide, by decide +kernel⟩, by decide, by decide, (fun h => absurd h (by decide))⟩
theorem mj_m45 : ∀ M, mj_ms1[5]? = some M → mj_mok M := fun M h => by
  cases h
  exact ⟨(mj_tw (mj_i2 (List.mem_of_getElem? (i := 144) rfl)) rfl), rfl, (mj_tw (mj_i1 (List.mem_of_getElem? (i := 3) rfl)) rfl), ⟨by decide, by decide, by decide +kernel⟩, by decide, by decide, (fun h => absurd h (by decide))⟩
theorem mj_m46 : ∀ M, mj_ms1[6]? = some M → mj_mok M := fun M h => by
  cases h
  exact ⟨(mj_tw (mj_i2 (List.mem_of_getElem? (i := 156) rfl)) rfl), rfl, (mj_tw (mj_i1 (List.mem_of_getElem? (i := 3) rfl)) rfl), ⟨by decide, by decide, by decide +kernel⟩, by decide, by decide, (fun h => absurd h (by decide))⟩
theorem mj_m47 : ∀ M, mj_ms1[7]? = some M → mj_mok M := fun M h => by
  cases h
  exact ⟨(mj_tw (mj_i2 (List.mem_of_getElem? (i := 164) rfl)) rfl), rfl, (mj_tw (mj_i1 (List.mem_of_getElem? (i := 3) rfl)) rfl), ⟨by decide, by decide, by decide +kernel⟩, by decide, by decide, (fun h => absurd h (by decide))⟩
theorem mj_m48 : ∀ M, mj_ms1[8]? = some M → mj_mok M := fun M h => by
  cases h
  exact ⟨(mj_tw (mj_i2 (List.mem_of_getElem? (i := 168) rfl)) rfl), rfl, (mj_tw (mj_i1 (List.mem_of_getElem? (i := 3) rfl)) rfl), ⟨by decide, by decide, by decide +kernel⟩, by decide, by decide, (fun h => absurd h (by decide))⟩
theorem mj_m49 : ∀ M, mj_ms1[9]? = some M → mj_mok M := fun M h => by
  cases h
  exact ⟨(mj_tw (mj_i2 (List.mem_of_getElem? (i := 180) rfl)) rfl), rfl, (mj_tw (mj_i1 (List.mem_of_getElem? (i := 3) rfl)) rfl), ⟨by decide, by decide, by decide +kernel⟩, by decide, by decide, (fun h => absurd h (by decide))⟩
theorem mj_m50 : ∀ M, mj_ms1[10]? = some M → mj_mok M := fun M h => by
  cases h
  exact ⟨(mj_tw (mj_i2 (List.mem_of_getElem? (i := 200) rfl)) rfl), rfl, (mj_tw (mj_i1 (List.mem_of_getElem? (i := 3) rfl)) rfl), ⟨by decide, by decide, by decide +kernel⟩, by decide, by decide, (fun h => absurd h (by decide))⟩
theorem mj_m51 : ∀ M, mj_ms1[11]? = some M → mj_mok M := fun M h => by
  cases h
  exact ⟨(mj_tw (mj_i2 (List.mem_of_getElem? (i := 204) rfl)) rfl), rfl, (mj_tw (mj_i1 (List.mem_of_getElem? (i := 3) rfl)) rfl), ⟨by decide, by decide, by decide +kernel⟩, by decide, by decide, (fun h => absurd h (by decide))⟩
theorem mj_m52 : ∀ M, mj_ms1[12]? = some M → mj_mok M := fun M h => by
  cases h
  exact ⟨(mj_tw (mj_i2 (List.mem_of_getElem? (i := 209) rfl)) rfl), rfl, (mj_tw (mj_i1 (List.mem_of_getElem? (i := 3) rfl)) rfl), ⟨by decide, by decide, by decide +kernel⟩, by decide, by decide, (fun h => absurd h (by decide))⟩
theorem mj_m53 : ∀ M, mj_ms1[13]? = some M → mj_mok M := fun M h => by
  cases h
  exact ⟨(mj_tw (mj_i2 (List.mem_of_getElem? (i := 214) rfl)) rfl), rfl, (mj_tw (mj_i1 (List.mem_of_getElem? (i := 3) rfl)) rfl), ⟨by decide, by decide, by decide +kernel⟩, by decide, by decide, (fun h => absurd h (by decide))⟩
theorem mj_m54 : ∀ M, mj_ms1[14]? = some M → mj_mok M := fun M h => by
  cases h
  exact ⟨(mj_tw (mj_i2 (List.mem_of_getElem? (i := 230) rfl)) rfl), rfl, (mj_tw (mj_i1 (List.mem_of_getElem? (i := 3) rfl)) rfl), ⟨by decide, by decide, by decide +kernel⟩, by decide, by decide, (fun h => absurd h (by decide))⟩
theorem mj_m55 : ∀ M, mj_ms1[15]? = some M → mj_mok M := fun M h => by
  cases h
  exact ⟨(mj_tw (mj_i2 (List.mem_of_getElem? (i := 234) rfl)) rfl), rfl, (mj_tw (mj_i1 (List.mem_of_getElem? (i := 3) rfl)) rfl), ⟨by decide, by decide, by decide +kernel⟩, by decide, by decide, (fun h => absurd h (by decide))⟩
theorem mj_m56 : ∀ M, mj_ms1[16]? = some M → mj_mok M := fun M h => by
  cases h
  exact ⟨(mj_tw (mj_i3 (List.mem_of_getElem? (i := 3) rfl)) rfl), rfl, (mj_tw (mj_i1 (List.mem_of_getElem? (i := 3) rfl)) rfl), ⟨by decide, by decide, by decide +kernel⟩, by decide, by decide, (fun h => absurd h (by decide))⟩
theorem mj_m57 : ∀ M, mj_ms1[17]? = some M → mj_mok M := fun M h => by
  cases h
  exact ⟨(mj_tw (mj_i3 (List.mem_of_getElem? (i := 9) rfl)) rfl), rfl, (mj_tw (mj_i1 (List.mem_of_getElem? (i := 3) rfl)) rfl), ⟨by decide, by decide, by decide +kernel⟩, by decide, by decide, (fun h => absurd h (by decide))⟩
theorem mj_m58 : ∀ M, mj_ms1[18]? = some M → mj_mok M := fun M h => by
  cases h
  exact ⟨(mj_tw (mj_i3 (List.mem_of_getElem? (i := 18) rfl)) rfl), rfl, (mj_tw (mj_i1 (List.mem_of_getElem? (i := 3) rfl)) rfl), ⟨by decide, by decide, by decide +kernel⟩, by decide, by decide, (fun h => absurd h (by decide))⟩
theorem mj_m59 : ∀ M, mj_ms1[19]? = some M → mj_mok M := fun M h => by
  cases h
  exact ⟨(mj_tw (mj_i3 (List.mem_of_getElem? (i := 26) rfl)) rfl), rfl, (mj_tw (mj_i1 (List.mem_of_getElem? (i := 3) rfl)) rfl), ⟨by decide, by decide, by decide +kernel⟩, by decide, by decide, (fun h => absurd h (by decide))⟩
theorem mj_m60 : ∀ M, mj_ms1[20]? = some M → mj_mok M := fun M h => by
  cases h
  exact ⟨(mj_tw (mj_i3 (List.mem_of_getElem? (i := 160) rfl)) rfl), rfl, (mj_tw (mj_i1 (List.mem_of_getElem? (i := 3) rfl)) rfl), ⟨by decide, by decide, by decide +kernel⟩, by decide, by decide, (fun h => absurd h (by decide))⟩
theorem mj_m61 : ∀ M, mj_ms1[21]? = some M → mj_mok M := fun M h => by
  cases h
  exact ⟨(mj_tw (mj_i4 (List.mem_of_getElem? (i := 71) rfl)) rfl), rfl, (mj_tw (mj_i1 (List.mem_of_getElem? (i := 3) rfl)) rfl), ⟨by decide, by decide, by decide +kernel⟩, by decide, by decide, (fun h => absurd h (by decide))⟩
theorem mj_m62 : ∀ M, mj_ms1[22]? = some M → mj_mok M := fun M h => by
  cases h
  exact ⟨(mj_tw (mj_i4 (List.mem_of_getElem? (i := 96) rfl)) rfl), rfl, (mj_tw (mj_i1 (List.mem_of_getElem? (i := 3) rfl)) rfl), ⟨by decide, by decide, by decide +kernel⟩, by decide, by decide, (fun h => absurd h (by decide))⟩
theorem mj_m63 : ∀ M, mj_ms1[23]? = some M → mj_mok M := fun M h => by
  cases h
  exact ⟨(mj_tw (mj_i4 (List.mem_of_getElem? (i := 109) rfl)) rfl), rfl, (mj_tw (mj_i1 (List.mem_of_getElem? (i := 3) rfl)) rfl), ⟨by decide, by decide, by decide +kernel⟩, by decide, by decide, (fun h => absurd h (by decide))⟩
theorem mj_m64 : ∀ M, mj_ms1[24]? = some M → mj_mok M := fun M h => by
  cases h
  exact ⟨(mj_tw (mj_i4 (List.mem_of_getElem? (i := 113) rfl)) rfl), rfl, (mj_tw (mj_i1 (List.mem_of_getElem? (i := 3) rfl)) rfl), ⟨by decide, by decide, by decide +kernel⟩, by decide, by decide, (fun h => absurd h (by decide))⟩
theorem mj_m65 : ∀ M, mj_ms1[25]? = some M → mj_mok M := fun M h => by
  cases h
  exact ⟨(mj_tw (mj_i4 (List.mem_of_getElem? (i := 118) rfl)) rfl), rfl, (mj_tw (mj_i1 (List.mem_of_getElem? (i := 3) rfl)) rfl), ⟨by decide, by decide, by decide +kernel⟩, by decide, by decide, (fun h => absurd h (by decide))⟩
theorem mj_m66 : ∀ M, mj_ms1[26]? = some M → mj_mok M := fun M h => by
  cases h
  exact ⟨(mj_tw (mj_i4 (List.mem_of_getElem? (i := 233) rfl)) rfl), rfl, (mj_tw (mj_i1 (List.mem_of_getElem? (i := 3) rfl)) rfl), ⟨by decide, by decide, by decide +kernel⟩, by decide, by decide, (fun h => absurd h (by decide))⟩
theorem mj_m67 : ∀ M, mj_ms1[27]? = some M → mj_mok M := fun M h => by
  cases h
  exact ⟨(mj_tw (mj_i5 (List.mem_of_getElem? (i := 59) rfl)) rfl), rfl, (mj_tw (mj_i1 (List.mem_of_getElem? (i := 3) rfl)) rfl), ⟨by decide, by decide, by decide +kernel⟩, by decide, by decide, (fun h => absurd h (by decide))⟩
theorem mj_m68 : ∀ M, mj_ms1[28]? = some M → mj_mok M := fun M h => by
  cases h
  exact ⟨(mj_tw (mj_i5 (List.mem_of_getElem? (i := 63) rfl)) rfl), rfl, (mj_tw (mj_i1 (List.mem_of_getElem? (i := 3) rfl)) rfl), ⟨by decide, by decide, by decide +kernel⟩, by decide, by decide, (fun h => absurd h (by decide))⟩
theorem mj_m69 : ∀ M, mj_ms1[29]? = some M → mj_mok M := fun M h => by
  cases h
  exact ⟨(mj_tw (mj_i5 (List.mem_of_getElem? (i := 68) rfl)) rfl), rfl, (mj_tw (mj_i1 (List.mem_of_getElem? (i := 3) rfl)) rfl), ⟨by decide, by decide, by decide +kernel⟩, by decide, by decide, (fun h => absurd h (by decide))⟩
theorem mj_m70 : ∀ M, mj_ms1[30]? = some M → mj_mok M := fun M h => by
  cases h
  exact ⟨(mj_tw (mj_i5 (List.mem_of_getElem? (i := 109) rfl)) rfl), rfl, (mj_tw (mj_i1 (List.mem_of_getElem? (i := 3) rfl)) rfl), ⟨by decide, by decide, by decide +kernel⟩, by decide, by decide, (fun h => absurd h (by decide))⟩
theorem mj_m71 : ∀ M, mj_ms1[31]? = some M → mj_mok M := fun M h => by
  cases h
  exact ⟨(mj_tw (mj_i5 (List.mem_of_getElem? (i := 129) rfl)) rfl), rfl, (mj_tw (mj_i1 (List.mem_of_getElem? (i := 3) rfl)) rfl), ⟨by decide, by decide, by decide +kernel⟩, by decide, by decide, (fun h => absurd h (by decide))⟩
theorem mj_m72 : ∀ M, mj_ms1[32]? = some M → mj_mok M := fun M h => by
  cases h
  exact ⟨(mj_tw (mj_i5 (List.mem_of_getElem? (i := 163) rfl)) rfl), rfl, (mj_tw (mj_i1 (List.mem_of_getElem? (i := 3) rfl)) rfl), ⟨by decide, by decide, by decide +kernel⟩, by decide, by decide, (fun h => absurd h (by decide))⟩
theorem mj_m73 : ∀ M, mj_ms1[33]? = some M → mj_mok M := fun M h => by
  cases h
  exact ⟨(mj_tw (mj_i5 (List.mem_of_getElem? (i := 172) rfl)) rfl), rfl, (mj_tw (mj_i1 (List.mem_of_getElem? (i := 3) rfl)) rfl), ⟨by decide, by decide, by decide +kernel⟩, by decide, by decide, (fun h => absurd h (by decide))⟩
theorem mj_m74 : ∀ M, mj_ms1[34]? = some M → mj_mok M := fun M h => by
  cases h
  exact ⟨(mj_tw (mj_i5 (List.mem_of_getElem? (i := 224) rfl)) rfl), rfl, (mj_tw (mj_i1 (List.mem_of_getElem? (i := 3) rfl)) rfl), ⟨by decide, by decide, by decide +kernel⟩, by decide, by decide, (fun h => absurd h (by decide))⟩
theorem mj_m75 : ∀ M, mj_ms1[35]? = some M → mj_mok M := fun M h => by
  cases h
  exact ⟨(mj_tw (mj_i5 (List.mem_of_getElem? (i := 237) rfl)) rfl), rfl, (mj_tw (mj_i1 (List.mem_of_getElem? (i := 3) rfl)) rfl), ⟨by decide, by decide, by decide +kernel⟩, by decide, by decide, (fun h => absurd h (by decide))⟩
theorem mj_m76 : ∀ M, mj_ms1[36]? = some M → mj_mok M := fun M h => by
  cases h
  exact ⟨(mj_tw (mj_i6 (List.mem_of_getElem? (i := 1) rfl)) rfl), rfl, (mj_tw (mj_i1 (List.mem_of_getElem? (i := 3) rfl)) rfl), ⟨by decide, by decide, by decide +kernel⟩, by decide, by decide, (fun h => absurd h (by decide))⟩
theorem mj_m77 : ∀ M, mj_ms1[37]? = some M → mj_mok M := fun M h => by
  cases h
  exact ⟨(mj_tw (mj_i6 (List.mem_of_getElem? (i := 48) rfl)) rfl), rfl, (mj_tw (mj_i1 (List.mem_of_getElem? (i := 3) rfl)) rfl), ⟨by decide, by decide, by decide +kernel⟩, by decide, by decide, (fun h => absurd h (by decide))⟩
theorem mj_m78 : ∀ M, mj_ms1[38]? = some M → mj_mok M := fun M h => by
  cases h
  exact ⟨(mj_tw (mj_i1 (List.mem_of_getElem? (i := 183) rfl)) rfl), rfl, (mj_tw (mj_i1 (List.mem_of_getElem? (i := 8) rfl)) rfl), ⟨by decide, by decide, by decide +kernel⟩, by decide, by decide, (fun _ => rfl)⟩
theorem mj_m79 : ∀ M, mj_ms1[39]? = some M → mj_mok M := fun M h => by
  cases h
  exact ⟨(mj_tw (mj_i6 (List.mem_of_getElem? (i := 38) rfl)) rfl), rfl, (mj_tw (mj_i1 (List.mem_of_getElem? (i := 8) rfl)) rfl), ⟨by decide, by decide, by decide +kernel⟩, by decide, by decide, (fun h => absurd h (by decide))⟩
theorem mj_mq1 (i : Nat) (M : mj_M) (h : mj_ms1[i]? = some M) (hl : M.1.name ≠ "law") : mj_mok M := by
  match i, h with
  | 0, h => exact mj_m40 M h
  | 1, h => exact mj_m41 M h
  | 2, h => exact mj_m42 M h
  | 3, h => exact mj_m43 M h
  | 4, h => exact mj_m44 M h
  | 5, h => exact mj_m45 M h
  | 6, h => exact mj_m46 M h
  | 7, h => exact mj_m47 M h
  | 8, h => exact mj_m48 M h
  | 9, h => exact mj_m49 M h
  | 10, h => exact mj_m50 M h
  | 11, h => exact mj_m51 M h
  | 12, h => exact mj_m52 M h
  | 13, h => exact mj_m53 M h
  | 14, h => exact mj_m54 M h
  | 15, h => exact mj_m55 M h
  | 16, h => exact mj_m56 M h
  | 17, h => exact mj_m57 M h
  | 18, h => exact mj_m58 M h
  | 19, h => exact mj_m59 M h
  | 20, h => exact mj_m60 M h
  | 21, h => exact mj_m61 M h
  | 22, h => exact mj_m62 M h
  | 23, h => exact mj_m63 M h
  | 24, h => exact mj_m64 M h
  | 25, h => exact mj_m65 M h
  | 26, h => exact mj_m66 M h
  | 27, h => exact mj_m67 M h
  | 28, h => exact mj_m68 M h
  | 29, h => exact mj_m69 M h
  | 30, h => exact mj_m70 M h
  | 31, h => exact mj_m71 M h
  | 32, h => exact mj_m72 M h
  | 33, h => exact mj_m73 M h
  | 34, h => exact mj_m74 M h
  | 35, h => exact mj_m75 M h
  | 36, h => exact mj_m76 M h
  | 37, h => exact mj_m77 M h
  | 38, h => exact mj_m78 M h
  | 39, h => exact mj_m79 M h
  | i + 40, h => simp [mj_ms1] at h
theorem mj_m80 : ∀ M, mj_ms2[0]? = some M → mj_mok M := fun M h => by
  cases h
  exact ⟨(mj_tw (mj_i6 (List.mem_of_getElem? (i := 43) rfl)) rfl), rfl, (mj_tw (mj_i1 (List.mem_of_getElem? (i := 8) rfl)) rfl), ⟨by decide, by decide, by decide +kernel⟩, by decide, by decide, (fun h => absurd h (by decide))⟩
theorem mj_m81 : ∀ M, mj_ms2[1]? = some M → mj_mok M := fun M h => by
  cases h
  exact ⟨(mj_tw (mj_i6 (List.mem_of_getElem? (i := 63) rfl)) rfl), rfl, (mj_tw (mj_i1 (List.mem_of_getElem? (i := 8) rfl)) rfl), ⟨by decide, by decide, by decide +kernel⟩, by decide, by decide, (fun h => absurd h (by decide))⟩
theorem mj_m82 : ∀ M, mj_ms2[2]? = some M → mj_mok M := fun M h => by
  cases h
  exact ⟨(mj_tw (mj_i6 (List.mem_of_getElem? (i := 70) rfl)) rfl), rfl, (mj_tw (mj_i1 (List.mem_of_getElem? (i := 8) rfl)) rfl), ⟨by decide, by decide, by decide +kernel⟩, by decide, by decide, (fun h => absurd h (by decide))⟩
theorem mj_m83 : ∀ M, mj_ms2[3]? = some M → mj_mok M := fun M h => by
  cases h
  exact ⟨(mj_tw (mj_i6 (List.mem_of_getElem? (i := 74) rfl)) rfl), rfl, (mj_tw (mj_i1 (List.mem_of_getElem? (i := 8) rfl)) rfl), ⟨by decide, by decide, by decide +kernel⟩, by decide, by decide, (fun h => absurd h (by decide))⟩
theorem mj_m84 : ∀ M, mj_ms2[4]? = some M → mj_mok M := fun M h => by
  cases h
  exact ⟨(mj_tw (mj_i6 (List.mem_of_getElem? (i := 85) rfl)) rfl), rfl, (mj_tw (mj_i1 (List.mem_of_getElem? (i := 8) rfl)) rfl), ⟨by decide, by decide, by decide +kernel⟩, by decide, by decide, (fun h => absurd h (by decide))⟩
theorem mj_m85 : ∀ M, mj_ms2[5]? = some M → mj_mok M := fun M h => by
  cases h
  exact ⟨(mj_tw (mj_i6 (List.mem_of_getElem? (i := 92) rfl)) rfl), rfl, (mj_tw (mj_i1 (List.mem_of_getElem? (i := 8) rfl)) rfl), ⟨by decide, by decide, by decide +kernel⟩, by decide, by decide, (fun h => absurd h (by decide))⟩
theorem mj_m86 : ∀ M, mj_ms2[6]? = some M → mj_mok M := fun M h => by
  cases h
  exact ⟨(mj_tw (mj_i6 (List.mem_of_getElem? (i := 97) rfl)) rfl), rfl, (mj_tw (mj_i1 (List.mem_of_getElem? (i := 8) rfl)) rfl), ⟨by decide, by decide, by decide +kernel⟩, by decide, by decide, (fun h => absurd h (by decide))⟩
theorem mj_m87 : ∀ M, mj_ms2[7]? = some M → mj_mok M := fun M h => by
  cases h
  exact ⟨(mj_tw (mj_i6 (List.mem_of_getElem? (i := 102) rfl)) rfl), rfl, (mj_tw (mj_i1 (List.mem_of_getElem? (i := 8) rfl)) rfl), ⟨by decide, by decide, by decide +kernel⟩, by decide, by decide, (fun h => absurd h (by decide))⟩
theorem mj_m88 : ∀ M, mj_ms2[8]? = some M → mj_mok M := fun M h => by
  cases h
  exact ⟨(mj_tw (mj_i1 (List.mem_of_getElem? (i := 116) rfl)) rfl), rfl, (mj_tw (mj_i1 (List.mem_of_getElem? (i := 5) rfl)) rfl), ⟨by decide, by decide, by decide +kernel⟩, by decide, by decide, (fun _ => rfl)⟩
theorem mj_m89 : ∀ M, mj_ms2[9]? = some M → mj_mok M := fun M h => by
  cases h
  exact ⟨(mj_tw (mj_i3 (List.mem_of_getElem? (i := 156) rfl)) rfl), rfl, (mj_tw (mj_i1 (List.mem_of_getElem? (i := 5) rfl)) rfl), ⟨by decide, by decide, by decide +kernel⟩, by decide, by decide, (fun h => absurd h (by decide))⟩
theorem mj_m90 : ∀ M, mj_ms2[10]? = some M → mj_mok M := fun M h => by
  cases h
  exact ⟨(mj_tw (mj_i4 (List.mem_of_getElem? (i := 63) rfl)) rfl), rfl, (mj_tw (mj_i1 (List.mem_of_getElem? (i := 5) rfl)) rfl), ⟨by decide, by decide, by decide +kernel⟩, by decide, by decide, (fun h => absurd h (by decide))⟩
theorem mj_m91 : ∀ M, mj_ms2[11]? = some M → mj_mok M := fun M h => by
  cases h
  exact ⟨(mj_tw (mj_i4 (List.mem_of_getElem? (i := 67) rfl)) rfl), rfl, (mj_tw (mj_i1 (List.mem_of_getElem? (i := 5) rfl)) rfl), ⟨by decide, by decide, by decide +kernel⟩, by decide, by decide, (fun h => absurd h (by decide))⟩
theorem mj_m92 : ∀ M, mj_ms2[12]? = some M → mj_mok M := fun M h => by
  cases h
  exact ⟨(mj_tw (mj_i4 (List.mem_of_getElem? (i := 75) rfl)) rfl), rfl, (mj_tw (mj_i1 (List.mem_of_getElem? (i := 5) rfl)) rfl), ⟨by decide, by decide, by decide +kernel⟩, by decide, by decide, (fun h => absurd h (by decide))⟩
theorem mj_m93 : ∀ M, mj_ms2[13]? = some M → mj_mok M := fun M h => by
  cases h
  exact ⟨(mj_tw (mj_i4 (List.mem_of_getElem? (i := 84) rfl)) rfl), rfl, (mj_tw (mj_i1 (List.mem_of_getElem? (i := 5) rfl)) rfl), ⟨by decide, by decide, by decide +kernel⟩, by decide, by decide, (fun h => absurd h (by decide))⟩
theorem mj_m94 : ∀ M, mj_ms2[14]? = some M → mj_mok M := fun M h => by
  cases h
  exact ⟨(mj_tw (mj_i4 (List.mem_of_getElem? (i := 100) rfl)) rfl), rfl, (mj_tw (mj_i1 (List.mem_of_getElem? (i := 5) rfl)) rfl), ⟨by decide, by decide, by decide +kernel⟩, by decide, by decide, (fun h => absurd h (by decide))⟩
theorem mj_m95 : ∀ M, mj_ms2[15]? = some M → mj_mok M := fun M h => by
  cases h
  exact ⟨(mj_tw (mj_i4 (List.mem_of_getElem? (i := 104) rfl)) rfl), rfl, (mj_tw (mj_i1 (List.mem_of_getElem? (i := 5) rfl)) rfl), ⟨by decide, by decide, by decide +kernel⟩, by decide, by decide, (fun h => absurd h (by decide))⟩
theorem mj_m96 : ∀ M, mj_ms2[16]? = some M → mj_mok M := fun M h => by
  cases h
  exact ⟨(mj_tw (mj_i4 (List.mem_of_getElem? (i := 122) rfl)) rfl), rfl, (mj_tw (mj_i1 (List.mem_of_getElem? (i := 5) rfl)) rfl), ⟨by decide, by decide, by decide +kernel⟩, by decide, by decide, (fun h => absurd h (by decide))⟩
theorem mj_m97 : ∀ M, mj_ms2[17]? = some M → mj_mok M := fun M h => by
  cases h
  exact ⟨(mj_tw (mj_i4 (List.mem_of_getElem? (i := 129) rfl)) rfl), rfl, (mj_tw (mj_i1 (List.mem_of_getElem? (i := 5) rfl)) rfl), ⟨by decide, by decide, by decide +kernel⟩, by decide, by decide, (fun h => absurd h (by decide))⟩
theorem mj_m98 : ∀ M, mj_ms2[18]? = some M → mj_mok M := fun M h => by
  cases h
  exact ⟨(mj_tw (mj_i4 (List.mem_of_getElem? (i := 138) rfl)) rfl), rfl, (mj_tw (mj_i1 (List.mem_of_getElem? (i := 5) rfl)) rfl), ⟨by decide, by decide, by decide +kernel⟩, by decide, by decide, (fun h => absurd h (by decide))⟩
theorem mj_m99 : ∀ M, mj_ms2[19]? = some M → mj_mok M := fun M h => by
  cases h
  exact ⟨(mj_tw (mj_i4 (List.mem_of_getElem? (i := 146) rfl)) rfl), rfl, (mj_tw (mj_i1 (List.mem_of_getElem? (i := 5) rfl)) rfl), ⟨by decide, by decide, by decide +kernel⟩, by decide, by decide, (fun h => absurd h (by decide))⟩
theorem mj_m100 : ∀ M, mj_ms2[20]? = some M → mj_mok M := fun M h => by
  cases h
  exact ⟨(mj_tw (mj_i4 (List.mem_of_getElem? (i := 150) rfl)) rfl), rfl, (mj_tw (mj_i1 (List.mem_of_getElem? (i := 5) rfl)) rfl), ⟨by decide, by decide, by decide +kernel⟩, by decide, by decide, (fun h => absurd h (by decide))⟩
theorem mj_m101 : ∀ M, mj_ms2[21]? = some M → mj_mok M := fun M h => by
  cases h
  exact ⟨(mj_tw (mj_i4 (List.mem_of_getElem? (i := 154) rfl)) rfl), rfl, (mj_tw (mj_i1 (List.mem_of_getElem? (i := 5) rfl)) rfl), ⟨by decide, by decide, by decide +kernel⟩, by decide, by decide, (fun h => absurd h (by decide))⟩
theorem mj_m102 : ∀ M, mj_ms2[22]? = some M → mj_mok M := fun M h => by
  cases h
  exact ⟨(mj_tw (mj_i4 (List.mem_of_getElem? (i := 158) rfl)) rfl), rfl, (mj_tw (mj_i1 (List.mem_of_getElem? (i := 5) rfl)) rfl), ⟨by decide, by decide, by decide +kernel⟩, by decide, by decide, (fun h => absurd h (by decide))⟩
theorem mj_m103 : ∀ M, mj_ms2[23]? = some M → mj_mok M := fun M h => by
  cases h
  exact ⟨(mj_tw (mj_i4 (List.mem_of_getElem? (i := 162) rfl)) rfl), rfl, (mj_tw (mj_i1 (List.mem_of_getElem? (i := 5) rfl)) rfl), ⟨by decide, by decide, by decide +kernel⟩, by decide, by decide, (fun h => absurd h (by decide))⟩
theorem mj_m104 : ∀ M, mj_ms2[24]? = some M → mj_mok M := fun M h => by
  cases h
  exact ⟨(mj_tw (mj_i4 (List.mem_of_getElem? (i := 166) rfl)) rfl), rfl, (mj_tw (mj_i1 (List.mem_of_getElem? (i := 5) rfl)) rfl), ⟨by decide, by decide, by decide +kernel⟩, by decide, by decide, (fun h => absurd h (by decide))⟩
theorem mj_m105 : ∀ M, mj_ms2[25]? = some M → mj_mok M := fun M h => by
  cases h
  exact ⟨(mj_tw (mj_i4 (List.mem_of_getElem? (i := 182) rfl)) rfl), rfl, (mj_tw (mj_i1 (List.mem_of_getElem? (i := 5) rfl)) rfl), ⟨by decide, by decide, by decide +kernel⟩, by decide, by decide, (fun h => absurd h (by decide))⟩
theorem mj_m106 : ∀ M, mj_ms2[26]? = some M → mj_mok M := fun M h => by
  cases h
  exact ⟨(mj_tw (mj_i4 (List.mem_of_getElem? (i := 195) rfl)) rfl), rfl, (mj_tw (mj_i1 (List.mem_of_getElem? (i := 5) rfl)) rfl), ⟨by decide, by decide, by decide +kernel⟩, by decide, by decide, (fun h => absurd h (by decide))⟩
theorem mj_m107 : ∀ M, mj_ms2[27]? = some M → mj_mok M := fun M h => by
  cases h
  exact ⟨(mj_tw (mj_i4 (List.mem_of_getElem? (i := 199) rfl)) rfl), rfl, (mj_tw (mj_i1 (List.mem_of_getElem? (i := 5) rfl)) rfl), ⟨by decide, by decide, by decide +kernel⟩, by decide, by decide, (fun h => absurd h (by decide))⟩
theorem mj_m108 : ∀ M, mj_ms2[28]? = some M → mj_mok M := fun M h => by
  cases h
  exact ⟨(mj_tw (mj_i4 (List.mem_of_getElem? (i := 203) rfl)) rfl), rfl, (mj_tw (mj_i1 (List.mem_of_getElem? (i := 5) rfl)) rfl), ⟨by decide, by decide, by decide +kernel⟩, by decide, by decide, (fun h => absurd h (by decide))⟩
theorem mj_m109 : ∀ M, mj_ms2[29]? = some M → mj_mok M := fun M h => by
  cases h
  exact ⟨(mj_tw (mj_i4 (List.mem_of_getElem? (i := 207) rfl)) rfl), rfl, (mj_tw (mj_i1 (List.mem_of_getElem? (i := 5) rfl)) rfl), ⟨by decide, by decide, by decide +kernel⟩, by decide, by decide, (fun h => absurd h (by decide))⟩
theorem mj_m110 : ∀ M, mj_ms2[30]? = some M → mj_mok M := fun M h => by
  cases h
  exact ⟨(mj_tw (mj_i4 (List.mem_of_getElem? (i := 215) rfl)) rfl), rfl, (mj_tw (mj_i1 (List.mem_of_getElem? (i := 5) rfl)) rfl), ⟨by decide, by decide, by decide +kernel⟩, by decide, by decide, (fun h => absurd h (by decide))⟩
theorem mj_m111 : ∀ M, mj_ms2[31]? = some M → mj_mok M := fun M h => by
  cases h
  exact ⟨(mj_tw (mj_i1 (List.mem_of_getElem? (i := 85) rfl)) rfl), rfl, (mj_tw (mj_i1 (List.mem_of_getElem? (i := 4) rfl)) rfl), ⟨by decide, by decide, by decide +kernel⟩, by decide, by decide, (fun _ => rfl)⟩
theorem mj_m112 : ∀ M, mj_ms2[32]? = some M → mj_mok M := fun M h => by
  cases h
  exact ⟨(mj_tw (mj_i2 (List.mem_of_getElem? (i := 50) rfl)) rfl), rfl, (mj_tw (mj_i1 (List.mem_of_getElem? (i := 4) rfl)) rfl), ⟨by decide, by decide, by decide +kernel⟩, by decide, by decide, (fun h => absurd h (by decide))⟩
theorem mj_m113 : ∀ M, mj_ms2[33]? = some M → mj_mok M := fun M h => by
  cases h
  exact ⟨(mj_tw (mj_i2 (List.mem_of_getElem? (i := 62) rfl)) rfl), rfl, (mj_tw (mj_i1 (List.mem_of_getElem? (i := 4) rfl)) rfl), ⟨by decide, by decide, by decide +kernel⟩, by decide, by decide, (fun h => absurd h (by decide))⟩
theorem mj_m114 : ∀ M, mj_ms2[34]? = some M → mj_mok M := fun M h => by
  cases h
  exact ⟨(mj_tw (mj_i2 (List.mem_of_getElem? (i := 66) rfl)) rfl), rfl, (mj_tw (mj_i1 (List.mem_of_getElem? (i := 4) rfl)) rfl), ⟨by decide, by decide, by decide +kernel⟩, by decide, by decide, (fun h => absurd h (by decide))⟩
theorem mj_m115 : ∀ M, mj_ms2[35]? = some M → mj_mok M := fun M h => by
  cases h
  exact ⟨(mj_tw (mj_i2 (List.mem_of_getElem? (i := 100) rfl)) rfl), rfl, (mj_tw (mj_i1 (List.mem_of_getElem? (i := 4) rfl)) rfl), ⟨by decide, by decide, by decide +kernel⟩, by decide, by decide, (fun h => absurd h (by decide))⟩
theorem mj_m116 : ∀ M, mj_ms2[36]? = some M → mj_mok M := fun M h => by
  cases h
  exact ⟨(mj_tw (mj_i2 (List.mem_of_getElem? (i := 104) rfl)) rfl), rfl, (mj_tw (mj_i1 (List.mem_of_getElem? (i := 4) rfl)) rfl), ⟨by decide, by decide, by decide +kernel⟩, by decide, by decide, (fun h => absurd h (by decide))⟩
theorem mj_m117 : ∀ M, mj_ms2[37]? = some M → mj_mok M := fun M h => by
  cases h
  exact ⟨(mj_tw (mj_i2 (List.mem_of_getElem? (i := 108) rfl)) rfl), rfl, (mj_tw (mj_i1 (List.mem_of_getElem? (i := 4) rfl)) rfl), ⟨by decide, by decide, by decide +kernel⟩, by decide, by decide, (fun h => absurd h (by decide))⟩
theorem mj_m118 : ∀ M, mj_ms2[38]? = some M → mj_mok M := fun M h => by
  cases h
  exact ⟨(mj_tw (mj_i2 (List.mem_of_getElem? (i := 114) rfl)) rfl), rfl, (mj_tw (mj_i1 (List.mem_of_getElem? (i := 4) rfl)) rfl), ⟨by decide, by decide, by decide +kernel⟩, by decide, by decide, (fun h => absurd h (by decide))⟩
theorem mj_m119 : ∀ M, mj_ms2[39]? = some M → mj_mok M := fun M h => by
  cases h
  exact ⟨(mj_tw (mj_i2 (List.mem_of_getElem? (i := 131) rfl)) rfl), rfl, (mj_tw (mj_i1 (List.mem_of_getElem? (i := 4) rfl)) rfl), ⟨by decide, by decide, by decide +kernel⟩, by decide, by decide, (fun h => absurd h (by decide))⟩
theorem mj_mq2 (i : Nat) (M : mj_M) (h : mj_ms2[i]? = some M) (hl : M.1.name ≠ "law") : mj_mok M := by
  match i, h with
  | 0, h => exact mj_m80 M h
  | 1, h => exact mj_m81 M h
  | 2, h => exact mj_m82 M h
  | 3, h => exact mj_m83 M h
  | 4, h => exact mj_m84 M h
  | 5, h => exact mj_m85 M h
  | 6, h => exact mj_m86 M h
  | 7, h => exact mj_m87 M h
  | 8, h => exact mj_m88 M h
  | 9, h => exact mj_m89 M h
  | 10, h => exact mj_m90 M h
  | 11, h => exact mj_m91 M h
  | 12, h => exact mj_m92 M h
  | 13, h => exact mj_m93 M h
  | 14, h => exact mj_m94 M h
  | 15, h => exact mj_m95 M h
  | 16, h => exact mj_m96 M h
  | 17, h => exact mj_m97 M h
  | 18, h => exact mj_m98 M h
  | 19, h => exact mj_m99 M h
  | 20, h => exact mj_m100 M h
  | 21, h => exact mj_m101 M h
  | 22, h => exact mj_m102 M h
  | 23, h => exact mj_m103 M h
  | 24, h => exact mj_m104 M h
  | 25, h => exact mj_m105 M h
  | 26, h => exact mj_m106 M h
  | 27, h => exact mj_m107 M h
  | 28, h => exact mj_m108 M h
  | 29, h => exact mj_m109 M h
  | 30, h => exact mj_m110 M h
  | 31, h => exact mj_m111 M h
  | 32, h => exact mj_m112 M h
  | 33, h => exact mj_m113 M h
  | 34, h => exact mj_m114 M h
  | 35, h => exact mj_m115 M h
  | 36, h => exact mj_m116 M h
  | 37, h => exact mj_m117 M h
  | 38, h => exact mj_m118 M h
  | 39, h => exact mj_m119 M h
  | i + 40, h => simp [mj_ms2] at h
theorem mj_m120 : ∀ M, mj_ms3[0]? = some M → mj_mok M := fun M h => by
  cases h
  exact ⟨(mj_tw (mj_i2 (List.mem_of_getElem? (i := 135) rfl)) rfl), rfl, (mj_tw (mj_i1 (List.mem_of_getElem? (i := 4) rfl)) rfl), ⟨by decide, by decide, by decide +kernel⟩, by decide, by decide, (fun h => absurd h (by decide))⟩
theorem mj_m121 : ∀ M, mj_ms3[1]? = some M → mj_mok M := fun M h => by
  cases h
  exact ⟨(mj_tw (mj_i3 (List.mem_of_getElem? (i := 167) rfl)) rfl), rfl, (mj_tw (mj_i1 (List.mem_of_getElem? (i := 4) rfl)) rfl), ⟨by decide, by decide, by decide +kernel⟩, by decide, by decide, (fun h => absurd h (by decide))⟩
theorem mj_m122 : ∀ M, mj_ms3[2]? = some M → mj_mok M := fun M h => by
  cases h
  exact ⟨(mj_tw (mj_i4 (List.mem_of_getElem? (i := 134) rfl)) rfl), rfl, (mj_tw (mj_i1 (List.mem_of_getElem? (i := 4) rfl)) rfl), ⟨by decide, by decide, by decide +kernel⟩, by decide, by decide, (fun h => absurd h (by decide))⟩
theorem mj_m123 : ∀ M, mj_ms3[3]? = some M → mj_mok M := fun M h => by
  cases h
  exact ⟨(mj_tw (mj_i4 (List.mem_of_getElem? (i := 174) rfl)) rfl), rfl, (mj_tw (mj_i1 (List.mem_of_getElem? (i := 4) rfl)) rfl), ⟨by decide, by decide, by decide +kernel⟩, by decide, by decide, (fun h => absurd h (by decide))⟩
theorem mj_m124 : ∀ M, mj_ms3[4]? = some M → mj_mok M := fun M h => by
  cases h
  exact ⟨(mj_tw (mj_i4 (List.mem_of_getElem? (i := 178) rfl)) rfl), rfl, (mj_tw (mj_i1 (List.mem_of_getElem? (i := 4) rfl)) rfl), ⟨by decide, by decide, by decide +kernel⟩, by decide, by decide, (fun h => absurd h (by decide))⟩
theorem mj_m125 : ∀ M, mj_ms3[5]? = some M → mj_mok M := fun M h => by
  cases h
  exact ⟨(mj_tw (mj_i4 (List.mem_of_getElem? (i := 187) rfl)) rfl), rfl, (mj_tw (mj_i1 (List.mem_of_getElem? (i := 4) rfl)) rfl), ⟨by decide, by decide, by decide +kernel⟩, by decide, by decide, (fun h => absurd h (by decide))⟩
theorem mj_m126 : ∀ M, mj_ms3[6]? = some M → mj_mok M := fun M h => by
  cases h
  exact ⟨(mj_tw (mj_i4 (List.mem_of_getElem? (i := 191) rfl)) rfl), rfl, (mj_tw (mj_i1 (List.mem_of_getElem? (i := 4) rfl)) rfl), ⟨by decide, by decide, by decide +kernel⟩, by decide, by decide, (fun h => absurd h (by decide))⟩
theorem mj_m127 : ∀ M, mj_ms3[7]? = some M → mj_mok M := fun M h => by
  cases h
  exact ⟨(mj_tw (mj_i4 (List.mem_of_getElem? (i := 219) rfl)) rfl), rfl, (mj_tw (mj_i1 (List.mem_of_getElem? (i := 4) rfl)) rfl), ⟨by decide, by decide, by decide +kernel⟩, by decide, by decide, (fun h => absurd h (by decide))⟩
theorem mj_m128 : ∀ M, mj_ms3[8]? = some M → mj_mok M := fun M h => by
  cases h
  exact ⟨(mj_tw (mj_i5 (List.mem_of_getElem? (i := 90) rfl)) rfl), rfl, (mj_tw (mj_i1 (List.mem_of_getElem? (i := 4) rfl)) rfl), ⟨by decide, by decide, by decide +kernel⟩, by decide, by decide, (fun h => absurd h (by decide))⟩
theorem mj_m129 : ∀ M, mj_ms3[9]? = some M → mj_mok M := fun M h => by
  cases h
  exact ⟨(mj_tw (mj_i1 (List.mem_of_getElem? (i := 122) rfl)) rfl), rfl, (mj_tw (mj_i1 (List.mem_of_getElem? (i := 6) rfl)) rfl), ⟨by decide, by decide, by decide +kernel⟩, by decide, by decide, (fun _ => rfl)⟩
theorem mj_m130 : ∀ M, mj_ms3[10]? = some M → mj_mok M := fun M h => by
  cases h
  exact ⟨(mj_tw (mj_i3 (List.mem_of_getElem? (i := 171) rfl)) rfl), rfl, (mj_tw (mj_i1 (List.mem_of_getElem? (i := 6) rfl)) rfl), ⟨by decide, by decide, by decide +kernel⟩, by decide, by decide, (fun h => absurd h (by decide))⟩
theorem mj_m131 : ∀ M, mj_ms3[11]? = some M → mj_mok M := fun M h => by
  cases h
  exact ⟨(mj_tw (mj_i3 (List.mem_of_getElem? (i := 178) rfl)) rfl), rfl, (mj_tw (mj_i1 (List.mem_of_getElem? (i := 6) rfl)) rfl), ⟨by decide, by decide, by decide +kernel⟩, by decide, by decide, (fun h => absurd h (by decide))⟩
theorem mj_m132 : ∀ M, mj_ms3[12]? = some M → mj_mok M := fun M h => by
  cases h
  exact ⟨(mj_tw (mj_i3 (List.mem_of_getElem? (i := 182) rfl)) rfl), rfl, (mj_tw (mj_i1 (List.mem_of_getElem? (i := 6) rfl)) rfl), ⟨by decide, by decide, by decide +kernel⟩, by decide, by decide, (fun h => absurd h (by decide))⟩
theorem mj_m133 : ∀ M, mj_ms3[13]? = some M → mj_mok M := fun M h => by
  cases h
  exact ⟨(mj_tw (mj_i3 (List.mem_of_getElem? (i := 235) rfl)) rfl), rfl, (mj_tw (mj_i1 (List.mem_of_getElem? (i := 6) rfl)) rfl), ⟨by decide, by decide, by decide +kernel⟩, by decide, by decide, (fun h => absurd h (by decide))⟩
theorem mj_m134 : ∀ M, mj_ms3[14]? = some M → mj_mok M := fun M h => by
  cases h
  exact ⟨(mj_tw (mj_i3 (List.mem_of_getElem? (i := 239) rfl)) rfl), rfl, (mj_tw (mj_i1 (List.mem_of_getElem? (i := 6) rfl)) rfl), ⟨by decide, by decide, by decide +kernel⟩, by decide, by decide, (fun h => absurd h (by decide))⟩
theorem mj_m135 : ∀ M, mj_ms3[15]? = some M → mj_mok M := fun M h => by
  cases h
  exact ⟨(mj_tw (mj_i4 (List.mem_of_getElem? (i := 59) rfl)) rfl), rfl, (mj_tw (mj_i1 (List.mem_of_getElem? (i := 6) rfl)) rfl), ⟨by decide, by decide, by decide +kernel⟩, by decide, by decide, (fun h => absurd h (by decide))⟩
theorem mj_m136 : ∀ M, mj_ms3[16]? = some M → mj_mok M := fun M h => by
  cases h
  exact ⟨(mj_tw (mj_i4 (List.mem_of_getElem? (i := 79) rfl)) rfl), rfl, (mj_tw (mj_i1 (List.mem_of_getElem? (i := 6) rfl)) rfl), ⟨by decide, by decide, by decide +kernel⟩, by decide, by decide, (fun h => absurd h (by decide))⟩
theorem mj_m137 : ∀ M, mj_ms3[17]? = some M → mj_mok M := fun M h => by
  cases h
  exact ⟨(mj_tw (mj_i4 (List.mem_of_getElem? (i := 88) rfl)) rfl), rfl, (mj_tw (mj_i1 (List.mem_of_getElem? (i := 6) rfl)) rfl), ⟨by decide, by decide, by decide +kernel⟩, by decide, by decide, (fun h => absurd h (by decide))⟩
theorem mj_m138 : ∀ M, mj_ms3[18]? = some M → mj_mok M := fun M h => by
  cases h
  exact ⟨(mj_tw (mj_i4 (List.mem_of_getElem? (i := 92) rfl)) rfl), rfl, (mj_tw (mj_i1 (List.mem_of_getElem? (i := 6) rfl)) rfl), ⟨by decide, by decide, by decide +kernel⟩, by decide, by decide, (fun h => absurd h (by decide))⟩
theorem mj_m139 : ∀ M, mj_ms3[19]? = some M → mj_mok M := fun M h => by
  cases h
  exact ⟨(mj_tw (mj_i4 (List.mem_of_getElem? (i := 142) rfl)) rfl), rfl, (mj_tw (mj_i1 (List.mem_of_getElem? (i := 6) rfl)) rfl), ⟨by decide, by decide, by decide +kernel⟩, by decide, by decide, (fun h => absurd h (by decide))⟩
theorem mj_m140 : ∀ M, mj_ms3[20]? = some M → mj_mok M := fun M h => by
  cases h
  exact ⟨(mj_tw (mj_i4 (List.mem_of_getElem? (i := 170) rfl)) rfl), rfl, (mj_tw (mj_i1 (List.mem_of_getElem? (i := 6) rfl)) rfl), ⟨by decide, by decide, by decide +kernel⟩, by decide, by decide, (fun h => absurd h (by decide))⟩
theorem mj_m141 : ∀ M, mj_ms3[21]? = some M → mj_mok M := fun M h => by
  cases h
  exact ⟨(mj_tw (mj_i1 (List.mem_of_getElem? (i := 31) rfl)) rfl), rfl, (mj_tw (mj_i1 (List.mem_of_getElem? (i := 1) rfl)) rfl), ⟨by decide, by decide, by decide +kernel⟩, by decide, by decide, (fun _ => rfl)⟩
theorem mj_m142 : ∀ M, mj_ms3[22]? = some M → mj_mok M := fun M h => by
  cases h
  exact ⟨(mj_tw (mj_i2 (List.mem_of_getElem? (i := 11) rfl)) rfl), rfl, (mj_tw (mj_i1 (List.mem_of_getElem? (i := 1) rfl)) rfl), ⟨by decide, by decide, by decide +kernel⟩, by decide, by decide, (fun h => absurd h (by decide))⟩
theorem mj_m143 : ∀ M, mj_ms3[23]? = some M → mj_mok M := fun M h => by
  cases h
  exact ⟨(mj_tw (mj_i2 (List.mem_of_getElem? (i := 15) rfl)) rfl), rfl, (mj_tw (mj_i1 (List.mem_of_getElem? (i := 1) rfl)) rfl), ⟨by decide, by decide, by decide +kernel⟩, by decide, by decide, (fun h => absurd h (by decide))⟩
theorem mj_m144 : ∀ M, mj_ms3[24]? = some M → mj_mok M := fun M h => by
  cases h
  exact ⟨(mj_tw (mj_i2 (List.mem_of_getElem? (i := 19) rfl)) rfl), rfl, (mj_tw (mj_i1 (List.mem_of_getElem? (i := 1) rfl)) rfl), ⟨by decide, by decide, by decide +kernel⟩, by decide, by decide, (fun h => absurd h (by decide))⟩
theorem mj_m145 : ∀ M, mj_ms3[25]? = some M → mj_mok M := fun M h => by
  cases h
  exact ⟨(mj_tw (mj_i2 (List.mem_of_getElem? (i := 23) rfl)) rfl), rfl, (mj_tw (mj_i1 (List.mem_of_getElem? (i := 1) rfl)) rfl), ⟨by decide, by decide, by decide +kernel⟩, by decide, by decide, (fun h => absurd h (by decide))⟩
theorem mj_m146 : ∀ M, mj_ms3[26]? = some M → mj_mok M := fun M h => by
  cases h
  exact ⟨(mj_tw (mj_i2 (List.mem_of_getElem? (i := 148) rfl)) rfl), rfl, (mj_tw (mj_i1 (List.mem_of_getElem? (i := 1) rfl)) rfl), ⟨by decide, by decide, by decide +kernel⟩, by decide, by decide, (fun h => absurd h (by decide))⟩
theorem mj_m147 : ∀ M, mj_ms3[27]? = some M → mj_mok M := fun M h => by
  cases h
  exact ⟨(mj_tw (mj_i2 (List.mem_of_getElem? (i := 160) rfl)) rfl), rfl, (mj_tw (mj_i1 (List.mem_of_getElem? (i := 1) rfl)) rfl), ⟨by decide, by decide, by decide +kernel⟩, by decide, by decide, (fun h => absurd h (by decide))⟩
theorem mj_m148 : ∀ M, mj_ms3[28]? = some M → mj_mok M := fun M h => by
  cases h
  exact ⟨(mj_tw (mj_i2 (List.mem_of_getElem? (i := 172) rfl)) rfl), rfl, (mj_tw (mj_i1 (List.mem_of_getElem? (i := 1) rfl)) rfl), ⟨by decide, by decide, by decide +kernel⟩, by decide, by decide, (fun h => absurd h (by decide))⟩
theorem mj_m149 : ∀ M, mj_ms3[29]? = some M → mj_mok M := fun M h => by
  cases h
  exact ⟨(mj_tw (mj_i2 (List.mem_of_getElem? (i := 188) rfl)) rfl), rfl, (mj_tw (mj_i1 (List.mem_of_getElem? (i := 1) rfl)) rfl), ⟨by decide, by decide, by decide +kernel⟩, by decide, by decide, (fun h => absurd h (by decide))⟩
theorem mj_m150 : ∀ M, mj_ms3[30]? = some M → mj_mok M := fun M h => by
  cases h
  exact ⟨(mj_tw (mj_i2 (List.mem_of_getElem? (i := 196) rfl)) rfl), rfl, (mj_tw (mj_i1 (List.mem_of_getElem? (i := 1) rfl)) rfl), ⟨by decide, by decide, by decide +kernel⟩, by decide, by decide, (fun h => absurd h (by decide))⟩
theorem mj_m151 : ∀ M, mj_ms3[31]? = some M → mj_mok M := fun M h => by
  cases h
  exact ⟨(mj_tw (mj_i2 (List.mem_of_getElem? (i := 219) rfl)) rfl), rfl, (mj_tw (mj_i1 (List.mem_of_getElem? (i := 1) rfl)) rfl), ⟨by decide, by decide, by decide +kernel⟩, by decide, by decide, (fun h => absurd h (by decide))⟩
theorem mj_m152 : ∀ M, mj_ms3[32]? = some M → mj_mok M := fun M h => by
  cases h
  exact ⟨(mj_tw (mj_i2 (List.mem_of_getElem? (i := 225) rfl)) rfl), rfl, (mj_tw (mj_i1 (List.mem_of_getElem? (i := 1) rfl)) rfl), ⟨by decide, by decide, by decide +kernel⟩, by decide, by decide, (fun h => absurd h (by decide))⟩
theorem mj_m153 : ∀ M, mj_ms3[33]? = some M → mj_mok M := fun M h => by
  cases h
  exact ⟨(mj_tw (mj_i2 (List.mem_of_getElem? (i := 237) rfl)) rfl), rfl, (mj_tw (mj_i1 (List.mem_of_getElem? (i := 1) rfl)) rfl), ⟨by decide, by decide, by decide +kernel⟩, by decide, by decide, (fun h => absurd h (by decide))⟩
theorem mj_m154 : ∀ M, mj_ms3[34]? = some M → mj_mok M := fun M h => by
  cases h
  exact ⟨(mj_tw (mj_i3 (List.mem_of_getElem? (i := 14) rfl)) rfl), rfl, (mj_tw (mj_i1 (List.mem_of_getElem? (i := 1) rfl)) rfl), ⟨by decide, by decide, by decide +kernel⟩, by decide, by decide, (fun h => absurd h (by decide))⟩
theorem mj_m155 : ∀ M, mj_ms3[35]? = some M → mj_mok M := fun M h => by
  cases h
  exact ⟨(mj_tw (mj_i3 (List.mem_of_getElem? (i := 22) rfl)) rfl), rfl, (mj_tw (mj_i1 (List.mem_of_getElem? (i := 1) rfl)) rfl), ⟨by decide, by decide, by decide +kernel⟩, by decide, by decide, (fun h => absurd h (by decide))⟩
theorem mj_m156 : ∀ M, mj_ms3[36]? = some M → mj_mok M := fun M h => by
  cases h
  exact ⟨(mj_tw (mj_i3 (List.mem_of_getElem? (i := 31) rfl)) rfl), rfl, (mj_tw (mj_i1 (List.mem_of_getElem? (i := 1) rfl)) rfl), ⟨by decide, by decide, by decide +kernel⟩, by decide, by decide, (fun h => absurd h (by decide))⟩
theorem mj_m157 : ∀ M, mj_ms3[37]? = some M → mj_mok M := fun M h => by
  cases h
  exact ⟨(mj_tw (mj_i3 (List.mem_of_getElem? (i := 42) rfl)) rfl), rfl, (mj_tw (mj_i1 (List.mem_of_getElem? (i := 1) rfl)) rfl), ⟨by decide, by decide, by decide +kernel⟩, by decide, by decide, (fun h => absurd h (by decide))⟩
theorem mj_m158 : ∀ M, mj_ms3[38]? = some M → mj_mok M := fun M h => by
  cases h
  exact ⟨(mj_tw (mj_i3 (List.mem_of_getElem? (i := 50) rfl)) rfl), rfl, (mj_tw (mj_i1 (List.mem_of_getElem? (i := 1) rfl)) rfl), ⟨by decide, by decide, by decide +kernel⟩, by decide, by decide, (fun h => absurd h (by decide))⟩
theorem mj_m159 : ∀ M, mj_ms3[39]? = some M → mj_mok M := fun M h => by
  cases h
  exact ⟨(mj_tw (mj_i3 (List.mem_of_getElem? (i := 55) rfl)) rfl), rfl, (mj_tw (mj_i1 (List.mem_of_getElem? (i := 1) rfl)) rfl), ⟨by decide, by decide, by decide +kernel⟩, by decide, by decide, (fun h => absurd h (by decide))⟩
theorem mj_mq3 (i : Nat) (M : mj_M) (h : mj_ms3[i]? = some M) (hl : M.1.name ≠ "law") : mj_mok M := by
  match i, h with
  | 0, h => exact mj_m120 M h
  | 1, h => exact mj_m121 M h
  | 2, h => exact mj_m122 M h
  | 3, h => exact mj_m123 M h
  | 4, h => exact mj_m124 M h
  | 5, h => exact mj_m125 M h
  | 6, h => exact mj_m126 M h
  | 7, h => exact mj_m127 M h
  | 8, h => exact mj_m128 M h
  | 9, h => exact mj_m129 M h
  | 10, h => exact mj_m130 M h
  | 11, h => exact mj_m131 M h
  | 12, h => exact mj_m132 M h
  | 13, h => exact mj_m133 M h
  | 14, h => exact mj_m134 M h
  | 15, h => exact mj_m135 M h
  | 16, h => exact mj_m136 M h
  | 17, h => exact mj_m137 M h
  | 18, h => exact mj_m138 M h
  | 19, h => exact mj_m139 M h
  | 20, h => exact mj_m140 M h
  | 21, h => exact mj_m141 M h
  | 22, h => exact mj_m142 M h
  | 23, h => exact mj_m143 M h
  | 24, h => exact mj_m144 M h
  | 25, h => exact mj_m145 M h
  | 26, h => exact mj_m146 M h
  | 27, h => exact mj_m147 M h
  | 28, h => exact mj_m148 M h
  | 29, h => exact mj_m149 M h
  | 30, h => exact mj_m150 M h
  | 31, h => exact mj_m151 M h
  | 32, h => exact mj_m152 M h
  | 33, h => exact mj_m153 M h
  | 34, h => exact mj_m154 M h
  | 35, h => exact mj_m155 M h
  | 36, h => exact mj_m156 M h
  | 37, h => exact mj_m157 M h
  | 38, h => exact mj_m158 M h
  | 39, h => exact mj_m159 M h
  | i + 40, h => simp [mj_ms3] at h
theorem mj_m160 : ∀ M, mj_ms4[0]? = some M → mj_mok M := fun M h => by
  cases h
  exact ⟨(mj_tw (mj_i3 (List.mem_of_getElem? (i := 60) rfl)) rfl), rfl, (mj_tw (mj_i1 (List.mem_of_getElem? (i := 1) rfl)) rfl), ⟨by decide, by decide, by decide +kernel⟩, by decide, by decide, (fun h => absurd h (by decide))⟩
theorem mj_m161 : ∀ M, mj_ms4[1]? = some M → mj_mok M := fun M h => by
  cases h
  exact ⟨(mj_tw (mj_i3 (List.mem_of_getElem? (i := 68) rfl)) rfl), rfl, (mj_tw (mj_i1 (List.mem_of_getElem? (i := 1) rfl)) rfl), ⟨by decide, by decide, by decide +kernel⟩, by decide, by decide, (fun h => absurd h (by decide))⟩
theorem mj_m162 : ∀ M, mj_ms4[2]? = some M → mj_mok M := fun M h => by
  cases h
  exact ⟨(mj_tw (mj_i3 (List.mem_of_getElem? (i := 78) rfl)) rfl), rfl, (mj_tw (mj_i1 (List.mem_of_getElem? (i := 1) rfl)) rfl), ⟨by decide, by decide, by decide +kernel⟩, by decide, by decide, (fun h => absurd h (by decide))⟩
theorem mj_m163 : ∀ M, mj_ms4[3]? = some M → mj_mok M := fun M h => by
  cases h
  exact ⟨(mj_tw (mj_i3 (List.mem_of_getElem? (i := 86) rfl)) rfl), rfl, (mj_tw (mj_i1 (List.mem_of_getElem? (i := 1) rfl)) rfl), ⟨by decide, by decide, by decide +kernel⟩, by decide, by decide, (fun h => absurd h (by decide))⟩
theorem mj_m164 : ∀ M, mj_ms4[4]? = some M → mj_mok M := fun M h => by
  cases h
  exact ⟨(mj_tw (mj_i4 (List.mem_of_getElem? (i := 228) rfl)) rfl), rfl, (mj_tw (mj_i1 (List.mem_of_getElem? (i := 1) rfl)) rfl), ⟨by decide, by decide, by decide +kernel⟩, by decide, by decide, (fun h => absurd h (by decide))⟩
theorem mj_m165 : ∀ M, mj_ms4[5]? = some M → mj_mok M := fun M h => by
  cases h
  exact ⟨(mj_tw (mj_i5 (List.mem_of_getElem? (i := 50) rfl)) rfl), rfl, (mj_tw (mj_i1 (List.mem_of_getElem? (i := 1) rfl)) rfl), ⟨by decide, by decide, by decide +kernel⟩, by decide, by decide, (fun h => absurd h (by decide))⟩
theorem mj_m166 : ∀ M, mj_ms4[6]? = some M → mj_mok M := fun M h => by
  cases h
  exact ⟨(mj_tw (mj_i5 (List.mem_of_getElem? (i := 54) rfl)) rfl), rfl, (mj_tw (mj_i1 (List.mem_of_getElem? (i := 1) rfl)) rfl), ⟨by decide, by decide, by decide +kernel⟩, by decide, by decide, (fun h => absurd h (by decide))⟩
theorem mj_m167 : ∀ M, mj_ms4[7]? = some M → mj_mok M := fun M h => by
  cases h
  exact ⟨(mj_tw (mj_i5 (List.mem_of_getElem? (i := 75) rfl)) rfl), rfl, (mj_tw (mj_i1 (List.mem_of_getElem? (i := 1) rfl)) rfl), ⟨by decide, by decide, by decide +kernel⟩, by decide, by decide, (fun h => absurd h (by decide))⟩
theorem mj_m168 : ∀ M, mj_ms4[8]? = some M → mj_mok M := fun M h => by
  cases h
  exact ⟨(mj_tw (mj_i5 (List.mem_of_getElem? (i := 79) rfl)) rfl), rfl, (mj_tw (mj_i1 (List.mem_of_getElem? (i := 1) rfl)) rfl), ⟨by decide, by decide, by decide +kernel⟩, by decide, by decide, (fun h => absurd h (by decide))⟩
theorem mj_m169 : ∀ M, mj_ms4[9]? = some M → mj_mok M := fun M h => by
  cases h
  exact ⟨(mj_tw (mj_i5 (List.mem_of_getElem? (i := 82) rfl)) rfl), rfl, (mj_tw (mj_i1 (List.mem_of_getElem? (i := 1) rfl)) rfl), ⟨by decide, by decide, by decide +kernel⟩, by decide, by decide, (fun h => absurd h (by decide))⟩
theorem mj_m170 : ∀ M, mj_ms4[10]? = some M → mj_mok M := fun M h => by
  cases h
  exact ⟨(mj_tw (mj_i5 (List.mem_of_getElem? (i := 97) rfl)) rfl), rfl, (mj_tw (mj_i1 (List.mem_of_getElem? (i := 1) rfl)) rfl), ⟨by decide, by decide, by decide +kernel⟩, by decide, by decide, (fun h => absurd h (by decide))⟩
theorem mj_m171 : ∀ M, mj_ms4[11]? = some M → mj_mok M := fun M h => by
  cases h
  exact ⟨(mj_tw (mj_i5 (List.mem_of_getElem? (i := 104) rfl)) rfl), rfl, (mj_tw (mj_i1 (List.mem_of_getElem? (i := 1) rfl)) rfl), ⟨by decide, by decide, by decide +kernel⟩, by decide, by decide, (fun h => absurd h (by decide))⟩
theorem mj_m172 : ∀ M, mj_ms4[12]? = some M → mj_mok M := fun M h => by
  cases h
  exact ⟨(mj_tw (mj_i5 (List.mem_of_getElem? (i := 117) rfl)) rfl), rfl, (mj_tw (mj_i1 (List.mem_of_getElem? (i := 1) rfl)) rfl), ⟨by decide, by decide, by decide +kernel⟩, by decide, by decide, (fun h => absurd h (by decide))⟩
theorem mj_m173 : ∀ M, mj_ms4[13]? = some M → mj_mok M := fun M h => by
  cases h
  exact ⟨(mj_tw (mj_i5 (List.mem_of_getElem? (i := 125) rfl)) rfl), rfl, (mj_tw (mj_i1 (List.mem_of_getElem? (i := 1) rfl)) rfl), ⟨by decide, by decide, by decide +kernel⟩, by decide, by decide, (fun h => absurd h (by decide))⟩
theorem mj_m174 : ∀ M, mj_ms4[14]? = some M → mj_mok M := fun M h => by
  cases h
  exact ⟨(mj_tw (mj_i5 (List.mem_of_getElem? (i := 137) rfl)) rfl), rfl, (mj_tw (mj_i1 (List.mem_of_getElem? (i := 1) rfl)) rfl), ⟨by decide, by decide, by decide +kernel⟩, by decide, by decide, (fun h => absurd h (by decide))⟩
theorem mj_m175 : ∀ M, mj_ms4[15]? = some M → mj_mok M := fun M h => by
  cases h
  exact ⟨(mj_tw (mj_i5 (List.mem_of_getElem? (i := 140) rfl)) rfl), rfl, (mj_tw (mj_i1 (List.mem_of_getElem? (i := 1) rfl)) rfl), ⟨by decide, by decide, by decide +kernel⟩, by decide, by decide, (fun h => absurd h (by decide))⟩
theorem mj_m176 : ∀ M, mj_ms4[16]? = some M → mj_mok M := fun M h => by
  cases h
  exact ⟨(mj_tw (mj_i5 (List.mem_of_getElem? (i := 145) rfl)) rfl), rfl, (mj_tw (mj_i1 (List.mem_of_getElem? (i := 1) rfl)) rfl), ⟨by decide, by decide, by decide +kernel⟩, by decide, by decide, (fun h => absurd h (by decide))⟩
theorem mj_m177 : ∀ M, mj_ms4[17]? = some M → mj_mok M := fun M h => by
  cases h
  exact ⟨(mj_tw (mj_i5 (List.mem_of_getElem? (i := 152) rfl)) rfl), rfl, (mj_tw (mj_i1 (List.mem_of_getElem? (i := 1) rfl)) rfl), ⟨by decide, by decide, by decide +kernel⟩, by decide, by decide, (fun h => absurd h (by decide))⟩
theorem mj_m178 : ∀ M, mj_ms4[18]? = some M → mj_mok M := fun M h => by
  cases h
  exact ⟨(mj_tw (mj_i5 (List.mem_of_getElem? (i := 159) rfl)) rfl), rfl, (mj_tw (mj_i1 (List.mem_of_getElem? (i := 1) rfl)) rfl), ⟨by decide, by decide, by decide +kernel⟩, by decide, by decide, (fun h => absurd h (by decide))⟩
theorem mj_m179 : ∀ M, mj_ms4[19]? = some M → mj_mok M := fun M h => by
  cases h
  exact ⟨(mj_tw (mj_i5 (List.mem_of_getElem? (i := 166) rfl)) rfl), rfl, (mj_tw (mj_i1 (List.mem_of_getElem? (i := 1) rfl)) rfl), ⟨by decide, by decide, by decide +kernel⟩, by decide, by decide, (fun h => absurd h (by decide))⟩
theorem mj_m180 : ∀ M, mj_ms4[20]? = some M → mj_mok M := fun M h => by
  cases h
  exact ⟨(mj_tw (mj_i5 (List.mem_of_getElem? (i := 180) rfl)) rfl), rfl, (mj_tw (mj_i1 (List.mem_of_getElem? (i := 1) rfl)) rfl), ⟨by decide, by decide, by decide +kernel⟩, by decide, by decide, (fun h => absurd h (by decide))⟩
theorem mj_m181 : ∀ M, mj_ms4[21]? = some M → mj_mok M := fun M h => by
  cases h
  exact ⟨(mj_tw (mj_i5 (List.mem_of_getElem? (i := 187) rfl)) rfl), rfl, (mj_tw (mj_i1 (List.mem_of_getElem? (i := 1) rfl)) rfl), ⟨by decide, by decide, by decide +kernel⟩, by decide, by decide, (fun h => absurd h (by decide))⟩
theorem mj_m182 : ∀ M, mj_ms4[22]? = some M → mj_mok M := fun M h => by
  cases h
  exact ⟨(mj_tw (mj_i5 (List.mem_of_getElem? (i := 202) rfl)) rfl), rfl, (mj_tw (mj_i1 (List.mem_of_getElem? (i := 1) rfl)) rfl), ⟨by decide, by decide, by decide +kernel⟩, by decide, by decide, (fun h => absurd h (by decide))⟩
theorem mj_m183 : ∀ M, mj_ms4[23]? = some M → mj_mok M := fun M h => by
  cases h
  exact ⟨(mj_tw (mj_i5 (List.mem_of_getElem? (i := 213) rfl)) rfl), rfl, (mj_tw (mj_i1 (List.mem_of_getElem? (i := 1) rfl)) rfl), ⟨by decide, by decide, by decide +kernel⟩, by decide, by decide, (fun h => absurd h (by decide))⟩
theorem mj_m184 : ∀ M, mj_ms4[24]? = some M → mj_mok M := fun M h => by
  cases h
  exact ⟨(mj_tw (mj_i5 (List.mem_of_getElem? (i := 220) rfl)) rfl), rfl, (mj_tw (mj_i1 (List.mem_of_getElem? (i := 1) rfl)) rfl), ⟨by decide, by decide, by decide +kernel⟩, by decide, by decide, (fun h => absurd h (by decide))⟩
theorem mj_m185 : ∀ M, mj_ms4[25]? = some M → mj_mok M := fun M h => by
  cases h
  exact ⟨(mj_tw (mj_i5 (List.mem_of_getElem? (i := 233) rfl)) rfl), rfl, (mj_tw (mj_i1 (List.mem_of_getElem? (i := 1) rfl)) rfl), ⟨by decide, by decide, by decide +kernel⟩, by decide, by decide, (fun h => absurd h (by decide))⟩
theorem mj_m186 : ∀ M, mj_ms4[26]? = some M → mj_mok M := fun M h => by
  cases h
  exact ⟨(mj_tw (mj_i6 (List.mem_of_getElem? (i := 8) rfl)) rfl), rfl, (mj_tw (mj_i1 (List.mem_of_getElem? (i := 1) rfl)) rfl), ⟨by decide, by decide, by decide +kernel⟩, by decide, by decide, (fun h => absurd h (by decide))⟩
theorem mj_m187 : ∀ M, mj_ms4[27]? = some M → mj_mok M := fun M h => by
  cases h
  exact ⟨(mj_tw (mj_i6 (List.mem_of_getElem? (i := 15) rfl)) rfl), rfl, (mj_tw (mj_i1 (List.mem_of_getElem? (i := 1) rfl)) rfl), ⟨by decide, by decide, by decide +kernel⟩, by decide, by decide, (fun h => absurd h (by decide))⟩
theorem mj_m188 : ∀ M, mj_ms4[28]? = some M → mj_mok M := fun M h => by
  cases h
  exact ⟨(mj_tw (mj_i6 (List.mem_of_getElem? (i := 23) rfl)) rfl), rfl, (mj_tw (mj_i1 (List.mem_of_getElem? (i := 1) rfl)) rfl), ⟨by decide, by decide, by decide +kernel⟩, by decide, by decide, (fun h => absurd h (by decide))⟩
theorem mj_m189 : ∀ M, mj_ms4[29]? = some M → mj_mok M := fun M h => by
  cases h
  exact ⟨(mj_tw (mj_i6 (List.mem_of_getElem? (i := 34) rfl)) rfl), rfl, (mj_tw (mj_i1 (List.mem_of_getElem? (i := 1) rfl)) rfl), ⟨by decide, by decide, by decide +kernel⟩, by decide, by decide, (fun h => absurd h (by decide))⟩
theorem mj_m190 : ∀ M, mj_ms4[30]? = some M → mj_mok M := fun M h => by
  cases h
  exact ⟨(mj_tw (mj_i6 (List.mem_of_getElem? (i := 81) rfl)) rfl), rfl, (mj_tw (mj_i1 (List.mem_of_getElem? (i := 1) rfl)) rfl), ⟨by decide, by decide, by decide +kernel⟩, by decide, by decide, (fun h => absurd h (by decide))⟩
theorem mj_m191 : ∀ M, mj_ms4[31]? = some M → mj_mok M := fun M h => by
  cases h
  exact ⟨(mj_tw (mj_i6 (List.mem_of_getElem? (i := 116) rfl)) rfl), rfl, (mj_tw (mj_i1 (List.mem_of_getElem? (i := 1) rfl)) rfl), ⟨by decide, by decide, by decide +kernel⟩, by decide, by decide, (fun h => absurd h (by decide))⟩
theorem mj_m192 : ∀ M, mj_ms4[32]? = some M → mj_mok M := fun M h => by
  cases h
  exact ⟨(mj_tw (mj_i6 (List.mem_of_getElem? (i := 133) rfl)) rfl), rfl, (mj_tw (mj_i1 (List.mem_of_getElem? (i := 1) rfl)) rfl), ⟨by decide, by decide, by decide +kernel⟩, by decide, by decide, (fun h => absurd h (by decide))⟩
theorem mj_m193 : ∀ M, mj_ms4[33]? = some M → mj_mok M := fun M h => by
  cases h
  exact ⟨(mj_tw (mj_i6 (List.mem_of_getElem? (i := 164) rfl)) rfl), rfl, (mj_tw (mj_i1 (List.mem_of_getElem? (i := 10) rfl)) rfl), ⟨by decide, by decide, by decide +kernel⟩, by decide, by decide, (fun _ => rfl)⟩
theorem mj_m194 : ∀ M, mj_ms4[34]? = some M → mj_mok M := fun M h => by
  cases h
  exact ⟨(mj_tw (mj_i7 (List.mem_of_getElem? (i := 111) rfl)) rfl), rfl, (mj_tw (mj_i1 (List.mem_of_getElem? (i := 10) rfl)) rfl), ⟨by decide, by decide, by decide +kernel⟩, by decide, by decide, (fun h => absurd h (by decide))⟩
theorem mj_m195 : ∀ M, mj_ms4[35]? = some M → mj_mok M := fun M h => by
  cases h
  exact ⟨(mj_tw (mj_i7 (List.mem_of_getElem? (i := 115) rfl)) rfl), rfl, (mj_tw (mj_i1 (List.mem_of_getElem? (i := 10) rfl)) rfl), ⟨by decide, by decide, by decide +kernel⟩, by decide, by decide, (fun h => absurd h (by decide))⟩
theorem mj_m196 : ∀ M, mj_ms4[36]? = some M → mj_mok M := fun M h => by
  cases h
  exact ⟨(mj_tw (mj_i7 (List.mem_of_getElem? (i := 119) rfl)) rfl), rfl, (mj_tw (mj_i1 (List.mem_of_getElem? (i := 10) rfl)) rfl), ⟨by decide, by decide, by decide +kernel⟩, by decide, by decide, (fun h => absurd h (by decide))⟩
theorem mj_m197 : ∀ M, mj_ms4[37]? = some M → mj_mok M := fun M h => by
  cases h
  exact ⟨(mj_tw (mj_i7 (List.mem_of_getElem? (i := 123) rfl)) rfl), rfl, (mj_tw (mj_i1 (List.mem_of_getElem? (i := 10) rfl)) rfl), ⟨by decide, by decide, by decide +kernel⟩, by decide, by decide, (fun h => absurd h (by decide))⟩
theorem mj_m198 : ∀ M, mj_ms4[38]? = some M → mj_mok M := fun M h => by
  cases h
  exact ⟨(mj_tw (mj_i7 (List.mem_of_getElem? (i := 127) rfl)) rfl), rfl, (mj_tw (mj_i1 (List.mem_of_getElem? (i := 10) rfl)) rfl), ⟨by decide, by decide, by decide +kernel⟩, by decide, by decide, (fun h => absurd h (by decide))⟩
theorem mj_m199 : ∀ M, mj_ms4[39]? = some M → mj_mok M := fun M h => by
  cases h
  exact ⟨(mj_tw (mj_i7 (List.mem_of_getElem? (i := 131) rfl)) rfl), rfl, (mj_tw (mj_i1 (List.mem_of_getElem? (i := 10) rfl)) rfl), ⟨by decide, by decide, by decide +kernel⟩, by decide, by decide, (fun h => absurd h (by decide))⟩
theorem mj_mq4 (i : Nat) (M : mj_M) (h : mj_ms4[i]? = some M) (hl : M.1.name ≠ "law") : mj_mok M := by
  match i, h with
  | 0, h => exact mj_m160 M h
  | 1, h => exact mj_m161 M h
  | 2, h => exact mj_m162 M h
  | 3, h => exact mj_m163 M h
  | 4, h => exact mj_m164 M h
  | 5, h => exact mj_m165 M h
  | 6, h => exact mj_m166 M h
  | 7, h => exact mj_m167 M h
  | 8, h => exact mj_m168 M h
  | 9, h => exact mj_m169 M h
  | 10, h => exact mj_m170 M h
  | 11, h => exact mj_m171 M h
  | 12, h => exact mj_m172 M h
  | 13, h => exact mj_m173 M h
  | 14, h => exact mj_m174 M h
  | 15, h => exact mj_m175 M h
  | 16, h => exact mj_m176 M h
  | 17, h => exact mj_m177 M h
  | 18, h => exact mj_m178 M h
  | 19, h => exact mj_m179 M h
  | 20, h => exact mj_m180 M h
  | 21, h => exact mj_m181 M h
  | 22, h => exact mj_m182 M h
  | 23, h => exact mj_m183 M h
  | 24, h => exact mj_m184 M h
  | 25, h => exact mj_m185 M h
  | 26, h => exact mj_m186 M h
  | 27, h => exact mj_m187 M h
  | 28, h => exact mj_m188 M h
  | 29, h => exact mj_m189 M h
  | 30, h => exact mj_m190 M h
  | 31, h => exact mj_m191 M h
  | 32, h => exact mj_m192 M h
  | 33, h => exact mj_m193 M h
  | 34, h => exact mj_m194 M h
  | 35, h => exact mj_m195 M h
  | 36, h => exact mj_m196 M h
  | 37, h => exact mj_m197 M h
  | 38, h => exact mj_m198 M h
  | 39, h => exact mj_m199 M h
  | i + 40, h => simp [mj_ms4] at h
theorem mj_m200 : ∀ M, mj_ms5[0]? = some M → mj_mok M := fun M h => by
  cases h
  exact ⟨(mj_tw (mj_i7 (List.mem_of_getElem? (i := 134) rfl)) rfl), rfl, (mj_tw (mj_i1 (List.mem_of_getElem? (i := 10) rfl)) rfl), ⟨by decide, by decide, by decide +kernel⟩, by decide, by decide, (fun h => absurd h (by decide))⟩
theorem mj_m201 : ∀ M, mj_ms5[1]? = some M → mj_mok M := fun M h => by
  cases h
  exact ⟨(mj_tw (mj_i7 (List.mem_of_getElem? (i := 137) rfl)) rfl), rfl, (mj_tw (mj_i1 (List.mem_of_getElem? (i := 10) rfl)) rfl), ⟨by decide, by decide, by decide +kernel⟩, by decide, by decide, (fun h => absurd h (by decide))⟩
theorem mj_m202 : ∀ M, mj_ms5[2]? = some M → mj_mok M := fun M h => by
  cases h
  exact ⟨(mj_tw (mj_i7 (List.mem_of_getElem? (i := 142) rfl)) rfl), rfl, (mj_tw (mj_i1 (List.mem_of_getElem? (i := 10) rfl)) rfl), ⟨by decide, by decide, by decide +kernel⟩, by decide, by decide, (fun h => absurd h (by decide))⟩
theorem mj_m203 : ∀ M, mj_ms5[3]? = some M → mj_mok M := fun M h => by
  cases h
  exact ⟨(mj_tw (mj_i7 (List.mem_of_getElem? (i := 146) rfl)) rfl), rfl, (mj_tw (mj_i1 (List.mem_of_getElem? (i := 10) rfl)) rfl), ⟨by decide, by decide, by decide +kernel⟩, by decide, by decide, (fun h => absurd h (by decide))⟩
theorem mj_m204 : ∀ M, mj_ms5[4]? = some M → mj_mok M := fun M h => by
  cases h
  exact ⟨(mj_tw (mj_i7 (List.mem_of_getElem? (i := 150) rfl)) rfl), rfl, (mj_tw (mj_i1 (List.mem_of_getElem? (i := 10) rfl)) rfl), ⟨by decide, by decide, by decide +kernel⟩, by decide, by decide, (fun h => absurd h (by decide))⟩
theorem mj_m205 : ∀ M, mj_ms5[5]? = some M → mj_mok M := fun M h => by
  cases h
  exact ⟨(mj_tw (mj_i7 (List.mem_of_getElem? (i := 154) rfl)) rfl), rfl, (mj_tw (mj_i1 (List.mem_of_getElem? (i := 10) rfl)) rfl), ⟨by decide, by decide, by decide +kernel⟩, by decide, by decide, (fun h => absurd h (by decide))⟩
theorem mj_m206 : ∀ M, mj_ms5[6]? = some M → mj_mok M := fun M h => by
  cases h
  exact ⟨(mj_tw (mj_i7 (List.mem_of_getElem? (i := 162) rfl)) rfl), rfl, (mj_tw (mj_i1 (List.mem_of_getElem? (i := 10) rfl)) rfl), ⟨by decide, by decide, by decide +kernel⟩, by decide, by decide, (fun h => absurd h (by decide))⟩
theorem mj_m207 : ∀ M, mj_ms5[7]? = some M → mj_mok M := fun M h => by
  cases h
  exact ⟨(mj_tw (mj_i7 (List.mem_of_getElem? (i := 166) rfl)) rfl), rfl, (mj_tw (mj_i1 (List.mem_of_getElem? (i := 10) rfl)) rfl), ⟨by decide, by decide, by decide +kernel⟩, by decide, by decide, (fun h => absurd h (by decide))⟩
theorem mj_m208 : ∀ M, mj_ms5[8]? = some M → mj_mok M := fun M h => by
  cases h
  exact ⟨(mj_tw (mj_i7 (List.mem_of_getElem? (i := 170) rfl)) rfl), rfl, (mj_tw (mj_i1 (List.mem_of_getElem? (i := 10) rfl)) rfl), ⟨by decide, by decide, by decide +kernel⟩, by decide, by decide, (fun h => absurd h (by decide))⟩
theorem mj_m209 : ∀ M, mj_ms5[9]? = some M → mj_mok M := fun M h => by
  cases h
  exact ⟨(mj_tw (mj_i7 (List.mem_of_getElem? (i := 174) rfl)) rfl), rfl, (mj_tw (mj_i1 (List.mem_of_getElem? (i := 10) rfl)) rfl), ⟨by decide, by decide, by decide +kernel⟩, by decide, by decide, (fun h => absurd h (by decide))⟩
theorem mj_m210 : ∀ M, mj_ms5[10]? = some M → mj_mok M := fun M h => by
  cases h
  exact ⟨(mj_tw (mj_i7 (List.mem_of_getElem? (i := 178) rfl)) rfl), rfl, (mj_tw (mj_i1 (List.mem_of_getElem? (i := 10) rfl)) rfl), ⟨by decide, by decide, by decide +kernel⟩, by decide, by decide, (fun h => absurd h (by decide))⟩
theorem mj_m211 : ∀ M, mj_ms5[11]? = some M → mj_mok M := fun M h => by
  cases h
  exact ⟨(mj_tw (mj_i7 (List.mem_of_getElem? (i := 183) rfl)) rfl), rfl, (mj_tw (mj_i1 (List.mem_of_getElem? (i := 10) rfl)) rfl), ⟨by decide, by decide, by decide +kernel⟩, by decide, by decide, (fun h => absurd h (by decide))⟩
theorem mj_m212 : ∀ M, mj_ms5[12]? = some M → mj_mok M := fun M h => by
  cases h
  exact ⟨(mj_tw (mj_i7 (List.mem_of_getElem? (i := 187) rfl)) rfl), rfl, (mj_tw (mj_i1 (List.mem_of_getElem? (i := 10) rfl)) rfl), ⟨by decide, by decide, by decide +kernel⟩, by decide, by decide, (fun h => absurd h (by decide))⟩
theorem mj_m213 : ∀ M, mj_ms5[13]? = some M → mj_mok M := fun M h => by
  cases h
  exact ⟨(mj_tw (mj_i7 (List.mem_of_getElem? (i := 191) rfl)) rfl), rfl, (mj_tw (mj_i1 (List.mem_of_getElem? (i := 10) rfl)) rfl), ⟨by decide, by decide, by decide +kernel⟩, by decide, by decide, (fun h => absurd h (by decide))⟩
theorem mj_m214 : ∀ M, mj_ms5[14]? = some M → mj_mok M := fun M h => by
  cases h
  exact ⟨(mj_tw (mj_i7 (List.mem_of_getElem? (i := 195) rfl)) rfl), rfl, (mj_tw (mj_i1 (List.mem_of_getElem? (i := 10) rfl)) rfl), ⟨by decide, by decide, by decide +kernel⟩, by decide, by decide, (fun h => absurd h (by decide))⟩
theorem mj_m215 : ∀ M, mj_ms5[15]? = some M → mj_mok M := fun M h => by
  cases h
  exact ⟨(mj_tw (mj_i7 (List.mem_of_getElem? (i := 199) rfl)) rfl), rfl, (mj_tw (mj_i1 (List.mem_of_getElem? (i := 10) rfl)) rfl), ⟨by decide, by decide, by decide +kernel⟩, by decide, by decide, (fun h => absurd h (by decide))⟩
theorem mj_m216 : ∀ M, mj_ms5[16]? = some M → mj_mok M := fun M h => by
  cases h
  exact ⟨(mj_tw (mj_i7 (List.mem_of_getElem? (i := 203) rfl)) rfl), rfl, (mj_tw (mj_i1 (List.mem_of_getElem? (i := 10) rfl)) rfl), ⟨by decide, by decide, by decide +kernel⟩, by decide, by decide, (fun h => absurd h (by decide))⟩
theorem mj_m217 : ∀ M, mj_ms5[17]? = some M → mj_mok M := fun M h => by
  cases h
  exact ⟨(mj_tw (mj_i7 (List.mem_of_getElem? (i := 207) rfl)) rfl), rfl, (mj_tw (mj_i1 (List.mem_of_getElem? (i := 10) rfl)) rfl), ⟨by decide, by decide, by decide +kernel⟩, by decide, by decide, (fun h => absurd h (by decide))⟩
theorem mj_m218 : ∀ M, mj_ms5[18]? = some M → mj_mok M := fun M h => by
  cases h
  exact ⟨(mj_tw (mj_i7 (List.mem_of_getElem? (i := 213) rfl)) rfl), rfl, (mj_tw (mj_i1 (List.mem_of_getElem? (i := 10) rfl)) rfl), ⟨by decide, by decide, by decide +kernel⟩, by decide, by decide, (fun h => absurd h (by decide))⟩
theorem mj_m219 : ∀ M, mj_ms5[19]? = some M → mj_mok M := fun M h => by
  cases h
  exact ⟨(mj_tw (mj_i7 (List.mem_of_getElem? (i := 218) rfl)) rfl), rfl, (mj_tw (mj_i1 (List.mem_of_getElem? (i := 10) rfl)) rfl), ⟨by decide, by decide, by decide +kernel⟩, by decide, by decide, (fun h => absurd h (by decide))⟩
theorem mj_m220 : ∀ M, mj_ms5[20]? = some M → mj_mok M := fun M h => by
  cases h
  exact ⟨(mj_tw (mj_i7 (List.mem_of_getElem? (i := 222) rfl)) rfl), rfl, (mj_tw (mj_i1 (List.mem_of_getElem? (i := 10) rfl)) rfl), ⟨by decide, by decide, by decide +kernel⟩, by decide, by decide, (fun h => absurd h (by decide))⟩
theorem mj_m221 : ∀ M, mj_ms5[21]? = some M → mj_mok M := fun M h => by
  cases h
  exact ⟨(mj_tw (mj_i7 (List.mem_of_getElem? (i := 227) rfl)) rfl), rfl, (mj_tw (mj_i1 (List.mem_of_getElem? (i := 10) rfl)) rfl), ⟨by decide, by decide, by decide +kernel⟩, by decide, by decide, (fun h => absurd h (by decide))⟩
theorem mj_m222 : ∀ M, mj_ms5[22]? = some M → mj_mok M := fun M h => by
  cases h
  exact ⟨(mj_tw (mj_i7 (List.mem_of_getElem? (i := 230) rfl)) rfl), rfl, (mj_tw (mj_i1 (List.mem_of_getElem? (i := 10) rfl)) rfl), ⟨by decide, by decide, by decide +kernel⟩, by decide, by decide, (fun h => absurd h (by decide))⟩
theorem mj_m223 : ∀ M, mj_ms5[23]? = some M → mj_mok M := fun M h => by
  cases h
  exact ⟨(mj_tw (mj_i7 (List.mem_of_getElem? (i := 235) rfl)) rfl), rfl, (mj_tw (mj_i1 (List.mem_of_getElem? (i := 10) rfl)) rfl), ⟨by decide, by decide, by decide +kernel⟩, by decide, by decide, (fun h => absurd h (by decide))⟩
theorem mj_m224 : ∀ M, mj_ms5[24]? = some M → mj_mok M := fun M h => by
  cases h
  exact ⟨(mj_tw (mj_i7 (List.mem_of_getElem? (i := 238) rfl)) rfl), rfl, (mj_tw (mj_i1 (List.mem_of_getElem? (i := 10) rfl)) rfl), ⟨by decide, by decide, by decide +kernel⟩, by decide, by decide, (fun h => absurd h (by decide))⟩
theorem mj_m225 : ∀ M, mj_ms5[25]? = some M → mj_mok M := fun M h => by
  cases h
  exact ⟨(mj_tw (mj_i8 (List.mem_of_getElem? (i := 2) rfl)) rfl), rfl, (mj_tw (mj_i1 (List.mem_of_getElem? (i := 10) rfl)) rfl), ⟨by decide, by decide, by decide +kernel⟩, by decide, by decide, (fun h => absurd h (by decide))⟩
theorem mj_m226 : ∀ M, mj_ms5[26]? = some M → mj_mok M := fun M h => by
  cases h
  exact ⟨(mj_tw (mj_i8 (List.mem_of_getElem? (i := 6) rfl)) rfl), rfl, (mj_tw (mj_i1 (List.mem_of_getElem? (i := 10) rfl)) rfl), ⟨by decide, by decide, by decide +kernel⟩, by decide, by decide, (fun h => absurd h (by decide))⟩
theorem mj_m227 : ∀ M, mj_ms5[27]? = some M → mj_mok M := fun M h => by
  cases h
  exact ⟨(mj_tw (mj_i8 (List.mem_of_getElem? (i := 10) rfl)) rfl), rfl, (mj_tw (mj_i1 (List.mem_of_getElem? (i := 10) rfl)) rfl), ⟨by decide, by decide, by decide +kernel⟩, by decide, by decide, (fun h => absurd h (by decide))⟩
theorem mj_m228 : ∀ M, mj_ms5[28]? = some M → mj_mok M := fun M h => by
  cases h
  exact ⟨(mj_tw (mj_i8 (List.mem_of_getElem? (i := 14) rfl)) rfl), rfl, (mj_tw (mj_i1 (List.mem_of_getElem? (i := 10) rfl)) rfl), ⟨by decide, by decide, by decide +kernel⟩, by decide, by decide, (fun h => absurd h (by decide))⟩
theorem mj_m229 : ∀ M, mj_ms5[29]? = some M → mj_mok M := fun M h => by
  cases h
  exact ⟨(mj_tw (mj_i8 (List.mem_of_getElem? (i := 18) rfl)) rfl), rfl, (mj_tw (mj_i1 (List.mem_of_getElem? (i := 10) rfl)) rfl), ⟨by decide, by decide, by decide +kernel⟩, by decide, by decide, (fun h => absurd h (by decide))⟩
theorem mj_m230 : ∀ M, mj_ms5[30]? = some M → mj_mok M := fun M h => by
  cases h
  exact ⟨(mj_tw (mj_i8 (List.mem_of_getElem? (i := 21) rfl)) rfl), rfl, (mj_tw (mj_i1 (List.mem_of_getElem? (i := 10) rfl)) rfl), ⟨by decide, by decide, by decide +kernel⟩, by decide, by decide, (fun h => absurd h (by decide))⟩
theorem mj_m231 : ∀ M, mj_ms5[31]? = some M → mj_mok M := fun M h => by
  cases h
  exact ⟨(mj_tw (mj_i8 (List.mem_of_getElem? (i := 25) rfl)) rfl), rfl, (mj_tw (mj_i1 (List.mem_of_getElem? (i := 10) rfl)) rfl), ⟨by decide, by decide, by decide +kernel⟩, by decide, by decide, (fun h => absurd h (by decide))⟩
theorem mj_m232 : ∀ M, mj_ms5[32]? = some M → mj_mok M := fun M h => by
  cases h
  exact ⟨(mj_tw (mj_i8 (List.mem_of_getElem? (i := 29) rfl)) rfl), rfl, (mj_tw (mj_i1 (List.mem_of_getElem? (i := 10) rfl)) rfl), ⟨by decide, by decide, by decide +kernel⟩, by decide, by decide, (fun h => absurd h (by decide))⟩
theorem mj_m233 : ∀ M, mj_ms5[33]? = some M → mj_mok M := fun M h => by
  cases h
  exact ⟨(mj_tw (mj_i8 (List.mem_of_getElem? (i := 33) rfl)) rfl), rfl, (mj_tw (mj_i1 (List.mem_of_getElem? (i := 10) rfl)) rfl), ⟨by decide, by decide, by decide +kernel⟩, by decide, by decide, (fun h => absurd h (by decide))⟩
theorem mj_m234 : ∀ M, mj_ms5[34]? = some M → mj_mok M := fun M h => by
  cases h
  exact ⟨(mj_tw (mj_i8 (List.mem_of_getElem? (i := 37) rfl)) rfl), rfl, (mj_tw (mj_i1 (List.mem_of_getElem? (i := 10) rfl)) rfl), ⟨by decide, by decide, by decide +kernel⟩, by decide, by decide, (fun h => absurd h (by decide))⟩
theorem mj_m235 : ∀ M, mj_ms5[35]? = some M → mj_mok M := fun M h => by
  cases h
  exact ⟨(mj_tw (mj_i8 (List.mem_of_getElem? (i := 41) rfl)) rfl), rfl, (mj_tw (mj_i1 (List.mem_of_getElem? (i := 10) rfl)) rfl), ⟨by decide, by decide, by decide +kernel⟩, by decide, by decide, (fun h => absurd h (by decide))⟩
theorem mj_m236 : ∀ M, mj_ms5[36]? = some M → mj_mok M := fun M h => by
  cases h
  exact ⟨(mj_tw (mj_i8 (List.mem_of_getElem? (i := 44) rfl)) rfl), rfl, (mj_tw (mj_i1 (List.mem_of_getElem? (i := 10) rfl)) rfl), ⟨by decide, by decide, by decide +kernel⟩, by decide, by decide, (fun h => absurd h (by decide))⟩
theorem mj_m237 : ∀ M, mj_ms5[37]? = some M → mj_mok M := fun M h => by
  cases h
  exact ⟨(mj_tw (mj_i8 (List.mem_of_getElem? (i := 48) rfl)) rfl), rfl, (mj_tw (mj_i1 (List.mem_of_getElem? (i := 10) rfl)) rfl), ⟨by decide, by decide, by decide +kernel⟩, by decide, by decide, (fun h => absurd h (by decide))⟩
theorem mj_m238 : ∀ M, mj_ms5[38]? = some M → mj_mok M := fun M h => by
  cases h
  exact ⟨(mj_tw (mj_i8 (List.mem_of_getElem? (i := 52) rfl)) rfl), rfl, (mj_tw (mj_i1 (List.mem_of_getElem? (i := 10) rfl)) rfl), ⟨by decide, by decide, by decide +kernel⟩, by decide, by decide, (fun h => absurd h (by decide))⟩
theorem mj_m239 : ∀ M, mj_ms5[39]? = some M → mj_mok M := fun M h => by
  cases h
  exact ⟨(mj_tw (mj_i8 (List.mem_of_getElem? (i := 56) rfl)) rfl), rfl, (mj_tw (mj_i1 (List.mem_of_getElem? (i := 10) rfl)) rfl), ⟨by decide, by decide, by decide +kernel⟩, by decide, by decide, (fun h => absurd h (by decide))⟩
theorem mj_mq5 (i : Nat) (M : mj_M) (h : mj_ms5[i]? = some M) (hl : M.1.name ≠ "law") : mj_mok M := by
  match i, h with
  | 0, h => exact mj_m200 M h
  | 1, h => exact mj_m201 M h
  | 2, h => exact mj_m202 M h
  | 3, h => exact mj_m203 M h
  | 4, h => exact mj_m204 M h
  | 5, h => exact mj_m205 M h
  | 6, h => exact mj_m206 M h
  | 7, h => exact mj_m207 M h
  | 8, h => exact mj_m208 M h
  | 9, h => exact mj_m209 M h
  | 10, h => exact mj_m210 M h
  | 11, h => exact mj_m211 M h
  | 12, h => exact mj_m212 M h
  | 13, h => exact mj_m213 M h
  | 14, h => exact mj_m214 M h
  | 15, h => exact mj_m215 M h
  | 16, h => exact mj_m216 M h
  | 17, h => exact mj_m217 M h
  | 18, h => exact mj_m218 M h
  | 19, h => exact mj_m219 M h
  | 20, h => exact mj_m220 M h
  | 21, h => exact mj_m221 M h
  | 22, h => exact mj_m222 M h
  | 23, h => exact mj_m223 M h
  | 24, h => exact mj_m224 M h
  | 25, h => exact mj_m225 M h
  | 26, h => exact mj_m226 M h
  | 27, h => exact mj_m227 M h
  | 28, h => exact mj_m228 M h
  | 29, h => exact mj_m229 M h
  | 30, h => exact mj_m230 M h
  | 31, h => exact mj_m231 M h
  | 32, h => exact mj_m232 M h
  | 33, h => exact mj_m233 M h
  | 34, h => exact mj_m234 M h
  | 35, h => exact mj_m235 M h
  | 36, h => exact mj_m236 M h
  | 37, h => exact mj_m237 M h
  | 38, h => exact mj_m238 M h
  | 39, h => exact mj_m239 M h
  | i + 40, h => simp [mj_ms5] at h
theorem mj_m240 : ∀ M, mj_ms6[0]? = some M → mj_mok M := fun M h => by
  cases h
  exact ⟨(mj_tw (mj_i8 (List.mem_of_getElem? (i := 59) rfl)) rfl), rfl, (mj_tw (mj_i1 (List.mem_of_getElem? (i := 10) rfl)) rfl), ⟨by decide, by decide, by decide +kernel⟩, by decide, by decide, (fun h => absurd h (by decide))⟩
theorem mj_m241 : ∀ M, mj_ms6[1]? = some M → mj_mok M := fun M h => by
  cases h
  exact ⟨(mj_tw (mj_i8 (List.mem_of_getElem? (i := 63) rfl)) rfl), rfl, (mj_tw (mj_i1 (List.mem_of_getElem? (i := 10) rfl)) rfl), ⟨by decide, by decide, by decide +kernel⟩, by decide, by decide, (fun h => absurd h (by decide))⟩
theorem mj_m242 : ∀ M, mj_ms6[2]? = some M → mj_mok M := fun M h => by
  cases h
  exact ⟨(mj_tw (mj_i8 (List.mem_of_getElem? (i := 67) rfl)) rfl), rfl, (mj_tw (mj_i1 (List.mem_of_getElem? (i := 10) rfl)) rfl), ⟨by decide, by decide, by decide +kernel⟩, by decide, by decide, (fun h => absurd h (by decide))⟩
theorem mj_m243 : ∀ M, mj_ms6[3]? = some M → mj_mok M := fun M h => by
  cases h
  exact ⟨(mj_tw (mj_i8 (List.mem_of_getElem? (i := 72) rfl)) rfl), rfl, (mj_tw (mj_i1 (List.mem_of_getElem? (i := 10) rfl)) rfl), ⟨by decide, by decide, by decide +kernel⟩, by decide, by decide, (fun h => absurd h (by decide))⟩
theorem mj_m244 : ∀ M, mj_ms6[4]? = some M → mj_mok M := fun M h => by
  cases h
  exact ⟨(mj_tw (mj_i8 (List.mem_of_getElem? (i := 76) rfl)) rfl), rfl, (mj_tw (mj_i1 (List.mem_of_getElem? (i := 10) rfl)) rfl), ⟨by decide, by decide, by decide +kernel⟩, by decide, by decide, (fun h => absurd h (by decide))⟩
theorem mj_m245 : ∀ M, mj_ms6[5]? = some M → mj_mok M := fun M h => by
  cases h
  exact ⟨(mj_tw (mj_i8 (List.mem_of_getElem? (i := 80) rfl)) rfl), rfl, (mj_tw (mj_i1 (List.mem_of_getElem? (i := 10) rfl)) rfl), ⟨by decide, by decide, by decide +kernel⟩, by decide, by decide, (fun h => absurd h (by decide))⟩
theorem mj_m246 : ∀ M, mj_ms6[6]? = some M → mj_mok M := fun M h => by
  cases h
  exact ⟨(mj_tw (mj_i8 (List.mem_of_getElem? (i := 85) rfl)) rfl), rfl, (mj_tw (mj_i1 (List.mem_of_getElem? (i := 10) rfl)) rfl), ⟨by decide, by decide, by decide +kernel⟩, by decide, by decide, (fun h => absurd h (by decide))⟩
theorem mj_m247 : ∀ M, mj_ms6[7]? = some M → mj_mok M := fun M h => by
  cases h
  exact ⟨(mj_tw (mj_i8 (List.mem_of_getElem? (i := 88) rfl)) rfl), rfl, (mj_tw (mj_i1 (List.mem_of_getElem? (i := 10) rfl)) rfl), ⟨by decide, by decide, by decide +kernel⟩, by decide, by decide, (fun h => absurd h (by decide))⟩
theorem mj_m248 : ∀ M, mj_ms6[8]? = some M → mj_mok M := fun M h => by
  cases h
  exact ⟨(mj_tw (mj_i8 (List.mem_of_getElem? (i := 92) rfl)) rfl), rfl, (mj_tw (mj_i1 (List.mem_of_getElem? (i := 10) rfl)) rfl), ⟨by decide, by decide, by decide +kernel⟩, by decide, by decide, (fun h => absurd h (by decide))⟩
theorem mj_m249 : ∀ M, mj_ms6[9]? = some M → mj_mok M := fun M h => by
  cases h
  exact ⟨(mj_tw (mj_i8 (List.mem_of_getElem? (i := 97) rfl)) rfl), rfl, (mj_tw (mj_i1 (List.mem_of_getElem? (i := 10) rfl)) rfl), ⟨by decide, by decide, by decide +kernel⟩, by decide, by decide, (fun h => absurd h (by decide))⟩
theorem mj_m250 : ∀ M, mj_ms6[10]? = some M → mj_mok M := fun M h => by
  cases h
  exact ⟨(mj_tw (mj_i8 (List.mem_of_getElem? (i := 101) rfl)) rfl), rfl, (mj_tw (mj_i1 (List.mem_of_getElem? (i := 10) rfl)) rfl), ⟨by decide, by decide, by decide +kernel⟩, by decide, by decide, (fun h => absurd h (by decide))⟩
theorem mj_m251 : ∀ M, mj_ms6[11]? = some M → mj_mok M := fun M h => by
  cases h
  exact ⟨(mj_tw (mj_i8 (List.mem_of_getElem? (i := 105) rfl)) rfl), rfl, (mj_tw (mj_i1 (List.mem_of_getElem? (i := 10) rfl)) rfl), ⟨by decide, by decide, by decide +kernel⟩, by decide, by decide, (fun h => absurd h (by decide))⟩
theorem mj_m252 : ∀ M, mj_ms6[12]? = some M → mj_mok M := fun M h => by
  cases h
  exact ⟨(mj_tw (mj_i8 (List.mem_of_getElem? (i := 109) rfl)) rfl), rfl, (mj_tw (mj_i1 (List.mem_of_getElem? (i := 10) rfl)) rfl), ⟨by decide, by decide, by decide +kernel⟩, by decide, by decide, (fun h => absurd h (by decide))⟩
theorem mj_m253 : ∀ M, mj_ms6[13]? = some M → mj_mok M := fun M h => by
  cases h
  exact ⟨(mj_tw (mj_i8 (List.mem_of_getElem? (i := 113) rfl)) rfl), rfl, (mj_tw (mj_i1 (List.mem_of_getElem? (i := 10) rfl)) rfl), ⟨by decide, by decide, by decide +kernel⟩, by decide, by decide, (fun h => absurd h (by decide))⟩
theorem mj_m254 : ∀ M, mj_ms6[14]? = some M → mj_mok M := fun M h => by
  cases h
  exact ⟨(mj_tw (mj_i8 (List.mem_of_getElem? (i := 117) rfl)) rfl), rfl, (mj_tw (mj_i1 (List.mem_of_getElem? (i := 10) rfl)) rfl), ⟨by decide, by decide, by decide +kernel⟩, by decide, by decide, (fun h => absurd h (by decide))⟩
theorem mj_m255 : ∀ M, mj_ms6[15]? = some M → mj_mok M := fun M h => by
  cases h
  exact ⟨(mj_tw (mj_i8 (List.mem_of_getElem? (i := 121) rfl)) rfl), rfl, (mj_tw (mj_i1 (List.mem_of_getElem? (i := 10) rfl)) rfl), ⟨by decide, by decide, by decide +kernel⟩, by decide, by decide, (fun h => absurd h (by decide))⟩
theorem mj_m256 : ∀ M, mj_ms6[16]? = some M → mj_mok M := fun M h => by
  cases h
  exact ⟨(mj_tw (mj_i8 (List.mem_of_getElem? (i := 125) rfl)) rfl), rfl, (mj_tw (mj_i1 (List.mem_of_getElem? (i := 10) rfl)) rfl), ⟨by decide, by decide, by decide +kernel⟩, by decide, by decide, (fun h => absurd h (by decide))⟩
theorem mj_m257 : ∀ M, mj_ms6[17]? = some M → mj_mok M := fun M h => by
  cases h
  exact ⟨(mj_tw (mj_i8 (List.mem_of_getElem? (i := 129) rfl)) rfl), rfl, (mj_tw (mj_i1 (List.mem_of_getElem? (i := 10) rfl)) rfl), ⟨by decide, by decide, by decide +kernel⟩, by decide, by decide, (fun h => absurd h (by decide))⟩
theorem mj_m258 : ∀ M, mj_ms6[18]? = some M → mj_mok M := fun M h => by
  cases h
  exact ⟨(mj_tw (mj_i8 (List.mem_of_getElem? (i := 133) rfl)) rfl), rfl, (mj_tw (mj_i1 (List.mem_of_getElem? (i := 10) rfl)) rfl), ⟨by decide, by decide, by decide +kernel⟩, by decide, by decide, (fun h => absurd h (by decide))⟩
theorem mj_m259 : ∀ M, mj_ms6[19]? = some M → mj_mok M := fun M h => by
  cases h
  exact ⟨(mj_tw (mj_i8 (List.mem_of_getElem? (i := 137) rfl)) rfl), rfl, (mj_tw (mj_i1 (List.mem_of_getElem? (i := 10) rfl)) rfl), ⟨by decide, by decide, by decide +kernel⟩, by decide, by decide, (fun h => absurd h (by decide))⟩
theorem mj_m260 : ∀ M, mj_ms6[20]? = some M → mj_mok M := fun M h => by
  cases h
  exact ⟨(mj_tw (mj_i8 (List.mem_of_getElem? (i := 141) rfl)) rfl), rfl, (mj_tw (mj_i1 (List.mem_of_getElem? (i := 10) rfl)) rfl), ⟨by decide, by decide, by decide +kernel⟩, by decide, by decide, (fun h => absurd h (by decide))⟩
theorem mj_m261 : ∀ M, mj_ms6[21]? = some M → mj_mok M := fun M h => by
  cases h
  exact ⟨(mj_tw (mj_i8 (List.mem_of_getElem? (i := 145) rfl)) rfl), rfl, (mj_tw (mj_i1 (List.mem_of_getElem? (i := 10) rfl)) rfl), ⟨by decide, by decide, by decide +kernel⟩, by decide, by decide, (fun h => absurd h (by decide))⟩
theorem mj_m262 : ∀ M, mj_ms6[22]? = some M → mj_mok M := fun M h => by
  cases h
  exact ⟨(mj_tw (mj_i8 (List.mem_of_getElem? (i := 149) rfl)) rfl), rfl, (mj_tw (mj_i1 (List.mem_of_getElem? (i := 10) rfl)) rfl), ⟨by decide, by decide, by decide +kernel⟩, by decide, by decide, (fun h => absurd h (by decide))⟩
theorem mj_m263 : ∀ M, mj_ms6[23]? = some M → mj_mok M := fun M h => by
  cases h
  exact ⟨(mj_tw (mj_i8 (List.mem_of_getElem? (i := 153) rfl)) rfl), rfl, (mj_tw (mj_i1 (List.mem_of_getElem? (i := 10) rfl)) rfl), ⟨by decide, by decide, by decide +kernel⟩, by decide, by decide, (fun h => absurd h (by decide))⟩
theorem mj_m264 : ∀ M, mj_ms6[24]? = some M → mj_mok M := fun M h => by
  cases h
  exact ⟨(mj_tw (mj_i8 (List.mem_of_getElem? (i := 157) rfl)) rfl), rfl, (mj_tw (mj_i1 (List.mem_of_getElem? (i := 10) rfl)) rfl), ⟨by decide, by decide, by decide +kernel⟩, by decide, by decide, (fun h => absurd h (by decide))⟩
theorem mj_m265 : ∀ M, mj_ms6[25]? = some M → mj_mok M := fun M h => by
  cases h
  exact ⟨(mj_tw (mj_i8 (List.mem_of_getElem? (i := 161) rfl)) rfl), rfl, (mj_tw (mj_i1 (List.mem_of_getElem? (i := 10) rfl)) rfl), ⟨by decide, by decide, by decide +kernel⟩, by decide, by decide, (fun h => absurd h (by decide))⟩
theorem mj_m266 : ∀ M, mj_ms6[26]? = some M → mj_mok M := fun M h => by
  cases h
  exact ⟨(mj_tw (mj_i8 (List.mem_of_getElem? (i := 167) rfl)) rfl), rfl, (mj_tw (mj_i1 (List.mem_of_getElem? (i := 10) rfl)) rfl), ⟨by decide, by decide, by decide +kernel⟩, by decide, by decide, (fun h => absurd h (by decide))⟩
theorem mj_m267 : ∀ M, mj_ms6[27]? = some M → mj_mok M := fun M h => by
  cases h
  exact ⟨(mj_tw (mj_i8 (List.mem_of_getElem? (i := 171) rfl)) rfl), rfl, (mj_tw (mj_i1 (List.mem_of_getElem? (i := 10) rfl)) rfl), ⟨by decide, by decide, by decide +kernel⟩, by decide, by decide, (fun h => absurd h (by decide))⟩
theorem mj_m268 : ∀ M, mj_ms6[28]? = some M → mj_mok M := fun M h => by
  cases h
  exact ⟨(mj_tw (mj_i8 (List.mem_of_getElem? (i := 175) rfl)) rfl), rfl, (mj_tw (mj_i1 (List.mem_of_getElem? (i := 10) rfl)) rfl), ⟨by decide, by decide, by decide +kernel⟩, by decide, by decide, (fun h => absurd h (by decide))⟩
theorem mj_m269 : ∀ M, mj_ms6[29]? = some M → mj_mok M := fun M h => by
  cases h
  exact ⟨(mj_tw (mj_i8 (List.mem_of_getElem? (i := 179) rfl)) rfl), rfl, (mj_tw (mj_i1 (List.mem_of_getElem? (i := 10) rfl)) rfl), ⟨by decide, by decide, by decide +kernel⟩, by decide, by decide, (fun h => absurd h (by decide))⟩
theorem mj_m270 : ∀ M, mj_ms6[30]? = some M → mj_mok M := fun M h => by
  cases h
  exact ⟨(mj_tw (mj_i8 (List.mem_of_getElem? (i := 184) rfl)) rfl), rfl, (mj_tw (mj_i1 (List.mem_of_getElem? (i := 10) rfl)) rfl), ⟨by decide, by decide, by decide +kernel⟩, by decide, by decide, (fun h => absurd h (by decide))⟩
theorem mj_m271 : ∀ M, mj_ms6[31]? = some M → mj_mok M := fun M h => by
  cases h
  exact ⟨(mj_tw (mj_i8 (List.mem_of_getElem? (i := 188) rfl)) rfl), rfl, (mj_tw (mj_i1 (List.mem_of_getElem? (i := 10) rfl)) rfl), ⟨by decide, by decide, by decide +kernel⟩, by decide, by decide, (fun h => absurd h (by decide))⟩
theorem mj_m272 : ∀ M, mj_ms6[32]? = some M → mj_mok M := fun M h => by
  cases h
  exact ⟨(mj_tw (mj_i8 (List.mem_of_getElem? (i := 192) rfl)) rfl), rfl, (mj_tw (mj_i1 (List.mem_of_getElem? (i := 10) rfl)) rfl), ⟨by decide, by decide, by decide +kernel⟩, by decide, by decide, (fun h => absurd h (by decide))⟩
theorem mj_m273 : ∀ M, mj_ms6[33]? = some M → mj_mok M := fun M h => by
  cases h
  exact ⟨(mj_tw (mj_i8 (List.mem_of_getElem? (i := 197) rfl)) rfl), rfl, (mj_tw (mj_i1 (List.mem_of_getElem? (i := 10) rfl)) rfl), ⟨by decide, by decide, by decide +kernel⟩, by decide, by decide, (fun h => absurd h (by decide))⟩
theorem mj_m274 : ∀ M, mj_ms6[34]? = some M → mj_mok M := fun M h => by
  cases h
  exact ⟨(mj_tw (mj_i8 (List.mem_of_getElem? (i := 201) rfl)) rfl), rfl, (mj_tw (mj_i1 (List.mem_of_getElem? (i := 10) rfl)) rfl), ⟨by decide, by decide, by decide +kernel⟩, by decide, by decide, (fun h => absurd h (by decide))⟩
theorem mj_m275 : ∀ M, mj_ms6[35]? = some M → mj_mok M := fun M h => by
  cases h
  exact ⟨(mj_tw (mj_i8 (List.mem_of_getElem? (i := 205) rfl)) rfl), rfl, (mj_tw (mj_i1 (List.mem_of_getElem? (i := 10) rfl)) rfl), ⟨by decide, by decide, by decide +kernel⟩, by decide, by decide, (fun h => absurd h (by decide))⟩
theorem mj_m276 : ∀ M, mj_ms6[36]? = some M → mj_mok M := fun M h => by
  cases h
  exact ⟨(mj_tw (mj_i8 (List.mem_of_getElem? (i := 209) rfl)) rfl), rfl, (mj_tw (mj_i1 (List.mem_of_getElem? (i := 10) rfl)) rfl), ⟨by decide, by decide, by decide +kernel⟩, by decide, by decide, (fun h => absurd h (by decide))⟩
theorem mj_m277 : ∀ M, mj_ms6[37]? = some M → mj_mok M := fun M h => by
  cases h
  exact ⟨(mj_tw (mj_i8 (List.mem_of_getElem? (i := 213) rfl)) rfl), rfl, (mj_tw (mj_i1 (List.mem_of_getElem? (i := 10) rfl)) rfl), ⟨by decide, by decide, by decide +kernel⟩, by decide, by decide, (fun h => absurd h (by decide))⟩
theorem mj_m278 : ∀ M, mj_ms6[38]? = some M → mj_mok M := fun M h => by
  cases h
  exact ⟨(mj_tw (mj_i8 (List.mem_of_getElem? (i := 217) rfl)) rfl), rfl, (mj_tw (mj_i1 (List.mem_of_getElem? (i := 10) rfl)) rfl), ⟨by decide, by decide, by decide +kernel⟩, by decide, by decide, (fun h => absurd h (by decide))⟩
theorem mj_m279 : ∀ M, mj_ms6[39]? = some M → mj_mok M := fun M h => by
  cases h
  exact ⟨(mj_tw (mj_i8 (List.mem_of_getElem? (i := 221) rfl)) rfl), rfl, (mj_tw (mj_i1 (List.mem_of_getElem? (i := 10) rfl)) rfl), ⟨by decide, by decide, by decide +kernel⟩, by decide, by decide, (fun h => absurd h (by decide))⟩
theorem mj_mq6 (i : Nat) (M : mj_M) (h : mj_ms6[i]? = some M) (hl : M.1.name ≠ "law") : mj_mok M := by
  match i, h with
  | 0, h => exact mj_m240 M h
  | 1, h => exact mj_m241 M h
  | 2, h => exact mj_m242 M h
  | 3, h => exact mj_m243 M h
  | 4, h => exact mj_m244 M h
  | 5, h => exact mj_m245 M h
  | 6, h => exact mj_m246 M h
  | 7, h => exact mj_m247 M h
  | 8, h => exact mj_m248 M h
  | 9, h => exact mj_m249 M h
  | 10, h => exact mj_m250 M h
  | 11, h => exact mj_m251 M h
  | 12, h => exact mj_m252 M h
  | 13, h => exact mj_m253 M h
  | 14, h => exact mj_m254 M h
  | 15, h => exact mj_m255 M h
  | 16, h => exact mj_m256 M h
  | 17, h => exact mj_m257 M h
  | 18, h => exact mj_m258 M h
  | 19, h => exact mj_m259 M h
  | 20, h => exact mj_m260 M h
  | 21, h => exact mj_m261 M h
  | 22, h => exact mj_m262 M h
  | 23, h => exact mj_m263 M h
  | 24, h => exact mj_m264 M h
  | 25, h => exact mj_m265 M h
  | 26, h => exact mj_m266 M h
  | 27, h => exact mj_m267 M h
  | 28, h => exact mj_m268 M h
  | 29, h => exact mj_m269 M h
  | 30, h => exact mj_m270 M h
  | 31, h => exact mj_m271 M h
  | 32, h => exact mj_m272 M h
  | 33, h => exact mj_m273 M h
  | 34, h => exact mj_m274 M h
  | 35, h => exact mj_m275 M h
  | 36, h => exact mj_m276 M h
  | 37, h => exact mj_m277 M h
  | 38, h => exact mj_m278 M h
  | 39, h => exact mj_m279 M h
  | i + 40, h => simp [mj_ms6] at h
theorem mj_m280 : ∀ M, mj_ms7[0]? = some M → mj_mok M := fun M h => by
  cases h
  exact ⟨(mj_tw (mj_i8 (List.mem_of_getElem? (i := 225) rfl)) rfl), rfl, (mj_tw (mj_i1 (List.mem_of_getElem? (i := 10) rfl)) rfl), ⟨by decide, by decide, by decide +kernel⟩, by decide, by decide, (fun h => absurd h (by decide))⟩
theorem mj_m281 : ∀ M, mj_ms7[1]? = some M → mj_mok M := fun M h => by
  cases h
  exact ⟨(mj_tw (mj_i8 (List.mem_of_getElem? (i := 229) rfl)) rfl), rfl, (mj_tw (mj_i1 (List.mem_of_getElem? (i := 10) rfl)) rfl), ⟨by decide, by decide, by decide +kernel⟩, by decide, by decide, (fun h => absurd h (by decide))⟩
theorem mj_m282 : ∀ M, mj_ms7[2]? = some M → mj_mok M := fun M h => by
  cases h
  exact ⟨(mj_tw (mj_i8 (List.mem_of_getElem? (i := 233) rfl)) rfl), rfl, (mj_tw (mj_i1 (List.mem_of_getElem? (i := 10) rfl)) rfl), ⟨by decide, by decide, by decide +kernel⟩, by decide, by decide, (fun h => absurd h (by decide))⟩
theorem mj_m283 : ∀ M, mj_ms7[3]? = some M → mj_mok M := fun M h => by
  cases h
  exact ⟨(mj_tw (mj_i8 (List.mem_of_getElem? (i := 237) rfl)) rfl), rfl, (mj_tw (mj_i1 (List.mem_of_getElem? (i := 10) rfl)) rfl), ⟨by decide, by decide, by decide +kernel⟩, by decide, by decide, (fun h => absurd h (by decide))⟩
theorem mj_m284 : ∀ M, mj_ms7[4]? = some M → mj_mok M := fun M h => by
  cases h
  exact ⟨(mj_tw (mj_i9 (List.mem_of_getElem? (i := 1) rfl)) rfl), rfl, (mj_tw (mj_i1 (List.mem_of_getElem? (i := 10) rfl)) rfl), ⟨by decide, by decide, by decide +kernel⟩, by decide, by decide, (fun h => absurd h (by decide))⟩
theorem mj_m285 : ∀ M, mj_ms7[5]? = some M → mj_mok M := fun M h => by
  cases h
  exact ⟨(mj_tw (mj_i9 (List.mem_of_getElem? (i := 5) rfl)) rfl), rfl, (mj_tw (mj_i1 (List.mem_of_getElem? (i := 10) rfl)) rfl), ⟨by decide, by decide, by decide +kernel⟩, by decide, by decide, (fun h => absurd h (by decide))⟩
theorem mj_m286 : ∀ M, mj_ms7[6]? = some M → mj_mok M := fun M h => by
  cases h
  exact ⟨(mj_tw (mj_i9 (List.mem_of_getElem? (i := 9) rfl)) rfl), rfl, (mj_tw (mj_i1 (List.mem_of_getElem? (i := 10) rfl)) rfl), ⟨by decide, by decide, by decide +kernel⟩, by decide, by decide, (fun h => absurd h (by decide))⟩
theorem mj_m287 : ∀ M, mj_ms7[7]? = some M → mj_mok M := fun M h => by
  cases h
  exact ⟨(mj_tw (mj_i9 (List.mem_of_getElem? (i := 13) rfl)) rfl), rfl, (mj_tw (mj_i1 (List.mem_of_getElem? (i := 10) rfl)) rfl), ⟨by decide, by decide, by decide +kernel⟩, by decide, by decide, (fun h => absurd h (by decide))⟩
theorem mj_m288 : ∀ M, mj_ms7[8]? = some M → mj_mok M := fun M h => by
  cases h
  exact ⟨(mj_tw (mj_i9 (List.mem_of_getElem? (i := 17) rfl)) rfl), rfl, (mj_tw (mj_i1 (List.mem_of_getElem? (i := 10) rfl)) rfl), ⟨by decide, by decide, by decide +kernel⟩, by decide, by decide, (fun h => absurd h (by decide))⟩
theorem mj_m289 : ∀ M, mj_ms7[9]? = some M → mj_mok M := fun M h => by
  cases h
  exact ⟨(mj_tw (mj_i9 (List.mem_of_getElem? (i := 21) rfl)) rfl), rfl, (mj_tw (mj_i1 (List.mem_of_getElem? (i := 10) rfl)) rfl), ⟨by decide, by decide, by decide +kernel⟩, by decide, by decide, (fun h => absurd h (by decide))⟩
theorem mj_m290 : ∀ M, mj_ms7[10]? = some M → mj_mok M := fun M h => by
  cases h
  exact ⟨(mj_tw (mj_i9 (List.mem_of_getElem? (i := 25) rfl)) rfl), rfl, (mj_tw (mj_i1 (List.mem_of_getElem? (i := 10) rfl)) rfl), ⟨by decide, by decide, by decide +kernel⟩, by decide, by decide, (fun h => absurd h (by decide))⟩
theorem mj_m291 : ∀ M, mj_ms7[11]? = some M → mj_mok M := fun M h => by
  cases h
  exact ⟨(mj_tw (mj_i9 (List.mem_of_getElem? (i := 29) rfl)) rfl), rfl, (mj_tw (mj_i1 (List.mem_of_getElem? (i := 10) rfl)) rfl), ⟨by decide, by decide, by decide +kernel⟩, by decide, by decide, (fun h => absurd h (by decide))⟩
theorem mj_m292 : ∀ M, mj_ms7[12]? = some M → mj_mok M := fun M h => by
  cases h
  exact ⟨(mj_tw (mj_i9 (List.mem_of_getElem? (i := 33) rfl)) rfl), rfl, (mj_tw (mj_i1 (List.mem_of_getElem? (i := 10) rfl)) rfl), ⟨by decide, by decide, by decide +kernel⟩, by decide, by decide, (fun h => absurd h (by decide))⟩
theorem mj_m293 : ∀ M, mj_ms7[13]? = some M → mj_mok M := fun M h => by
  cases h
  exact ⟨(mj_tw (mj_i9 (List.mem_of_getElem? (i := 37) rfl)) rfl), rfl, (mj_tw (mj_i1 (List.mem_of_getElem? (i := 10) rfl)) rfl), ⟨by decide, by decide, by decide +kernel⟩, by decide, by decide, (fun h => absurd h (by decide))⟩
theorem mj_m294 : ∀ M, mj_ms7[14]? = some M → mj_mok M := fun M h => by
  cases h
  exact ⟨(mj_tw (mj_i9 (List.mem_of_getElem? (i := 41) rfl)) rfl), rfl, (mj_tw (mj_i1 (List.mem_of_getElem? (i := 10) rfl)) rfl), ⟨by decide, by decide, by decide +kernel⟩, by decide, by decide, (fun h => absurd h (by decide))⟩
theorem mj_m295 : ∀ M, mj_ms7[15]? = some M → mj_mok M := fun M h => by
  cases h
  exact ⟨(mj_tw (mj_i9 (List.mem_of_getElem? (i := 45) rfl)) rfl), rfl, (mj_tw (mj_i1 (List.mem_of_getElem? (i := 10) rfl)) rfl), ⟨by decide, by decide, by decide +kernel⟩, by decide, by decide, (fun h => absurd h (by decide))⟩
theorem mj_m296 : ∀ M, mj_ms7[16]? = some M → mj_mok M := fun M h => by
  cases h
  exact ⟨(mj_tw (mj_i9 (List.mem_of_getElem? (i := 49) rfl)) rfl), rfl, (mj_tw (mj_i1 (List.mem_of_getElem? (i := 10) rfl)) rfl), ⟨by decide, by decide, by decide +kernel⟩, by decide, by decide, (fun h => absurd h (by decide))⟩
theorem mj_m297 : ∀ M, mj_ms7[17]? = some M → mj_mok M := fun M h => by
  cases h
  exact ⟨(mj_tw (mj_i9 (List.mem_of_getElem? (i := 53) rfl)) rfl), rfl, (mj_tw (mj_i1 (List.mem_of_getElem? (i := 10) rfl)) rfl), ⟨by decide, by decide, by decide +kernel⟩, by decide, by decide, (fun h => absurd h (by decide))⟩
theorem mj_m298 : ∀ M, mj_ms7[18]? = some M → mj_mok M := fun M h => by
  cases h
  exact ⟨(mj_tw (mj_i9 (List.mem_of_getElem? (i := 57) rfl)) rfl), rfl, (mj_tw (mj_i1 (List.mem_of_getElem? (i := 10) rfl)) rfl), ⟨by decide, by decide, by decide +kernel⟩, by decide, by decide, (fun h => absurd h (by decide))⟩
theorem mj_m299 : ∀ M, mj_ms7[19]? = some M → mj_mok M := fun M h => by
  cases h
  exact ⟨(mj_tw (mj_i9 (List.mem_of_getElem? (i := 61) rfl)) rfl), rfl, (mj_tw (mj_i1 (List.mem_of_getElem? (i := 10) rfl)) rfl), ⟨by decide, by decide, by decide +kernel⟩, by decide, by decide, (fun h => absurd h (by decide))⟩
theorem mj_m300 : ∀ M, mj_ms7[20]? = some M → mj_mok M := fun M h => by
  cases h
  exact ⟨(mj_tw (mj_i9 (List.mem_of_getElem? (i := 65) rfl)) rfl), rfl, (mj_tw (mj_i1 (List.mem_of_getElem? (i := 10) rfl)) rfl), ⟨by decide, by decide, by decide +kernel⟩, by decide, by decide, (fun h => absurd h (by decide))⟩
theorem mj_m301 : ∀ M, mj_ms7[21]? = some M → mj_mok M := fun M h => by
  cases h
  exact ⟨(mj_tw (mj_i9 (List.mem_of_getElem? (i := 69) rfl)) rfl), rfl, (mj_tw (mj_i1 (List.mem_of_getElem? (i := 10) rfl)) rfl), ⟨by decide, by decide, by decide +kernel⟩, by decide, by decide, (fun h => absurd h (by decide))⟩
theorem mj_m302 : ∀ M, mj_ms7[22]? = some M → mj_mok M := fun M h => by
  cases h
  exact ⟨(mj_tw (mj_i9 (List.mem_of_getElem? (i := 73) rfl)) rfl), rfl, (mj_tw (mj_i1 (List.mem_of_getElem? (i := 10) rfl)) rfl), ⟨by decide, by decide, by decide +kernel⟩, by decide, by decide, (fun h => absurd h (by decide))⟩
theorem mj_m303 : ∀ M, mj_ms7[23]? = some M → mj_mok M := fun M h => by
  cases h
  exact ⟨(mj_tw (mj_i9 (List.mem_of_getElem? (i := 77) rfl)) rfl), rfl, (mj_tw (mj_i1 (List.mem_of_getElem? (i := 10) rfl)) rfl), ⟨by decide, by decide, by decide +kernel⟩, by decide, by decide, (fun h => absurd h (by decide))⟩
theorem mj_m304 : ∀ M, mj_ms7[24]? = some M → mj_mok M := fun M h => by
  cases h
  exact ⟨(mj_tw (mj_i9 (List.mem_of_getElem? (i := 81) rfl)) rfl), rfl, (mj_tw (mj_i1 (List.mem_of_getElem? (i := 10) rfl)) rfl), ⟨by decide, by decide, by decide +kernel⟩, by decide, by decide, (fun h => absurd h (by decide))⟩
theorem mj_m305 : ∀ M, mj_ms7[25]? = some M → mj_mok M := fun M h => by
  cases h
  exact ⟨(mj_tw (mj_i9 (List.mem_of_getElem? (i := 85) rfl)) rfl), rfl, (mj_tw (mj_i1 (List.mem_of_getElem? (i := 10) rfl)) rfl), ⟨by decide, by decide, by decide +kernel⟩, by decide, by decide, (fun h => absurd h (by decide))⟩
theorem mj_m306 : ∀ M, mj_ms7[26]? = some M → mj_mok M := fun M h => by
  cases h
  exact ⟨(mj_tw (mj_i9 (List.mem_of_getElem? (i := 90) rfl)) rfl), rfl, (mj_tw (mj_i1 (List.mem_of_getElem? (i := 10) rfl)) rfl), ⟨by decide, by decide, by decide +kernel⟩, by decide, by decide, (fun h => absurd h (by decide))⟩
theorem mj_m307 : ∀ M, mj_ms7[27]? = some M → mj_mok M := fun M h => by
  cases h
  exact ⟨(mj_tw (mj_i9 (List.mem_of_getElem? (i := 93) rfl)) rfl), rfl, (mj_tw (mj_i1 (List.mem_of_getElem? (i := 10) rfl)) rfl), ⟨by decide, by decide, by decide +kernel⟩, by decide, by decide, (fun h => absurd h (by decide))⟩
theorem mj_m308 : ∀ M, mj_ms7[28]? = some M → mj_mok M := fun M h => by
  cases h
  exact ⟨(mj_tw (mj_i9 (List.mem_of_getElem? (i := 97) rfl)) rfl), rfl, (mj_tw (mj_i1 (List.mem_of_getElem? (i := 10) rfl)) rfl), ⟨by decide, by decide, by decide +kernel⟩, by decide, by decide, (fun h => absurd h (by decide))⟩
theorem mj_m309 : ∀ M, mj_ms7[29]? = some M → mj_mok M := fun M h => by
  cases h
  exact ⟨(mj_tw (mj_i6 (List.mem_of_getElem? (i := 120) rfl)) rfl), rfl, (mj_tw (mj_i1 (List.mem_of_getElem? (i := 26) rfl)) rfl), ⟨by decide, by decide, by decide +kernel⟩, by decide, by decide, (fun h => absurd h (by decide))⟩
theorem mj_m310 : ∀ M, mj_ms7[30]? = some M → mj_mok M := fun M h => by
  cases h
  exact ⟨(mj_tw (mj_i6 (List.mem_of_getElem? (i := 123) rfl)) rfl), rfl, (mj_tw (mj_i1 (List.mem_of_getElem? (i := 26) rfl)) rfl), ⟨by decide, by decide, by decide +kernel⟩, by decide, by decide, (fun h => absurd h (by decide))⟩
theorem mj_m311 : ∀ M, mj_ms7[31]? = some M → mj_mok M := fun M h => by
  cases h
  exact ⟨(mj_tw (mj_i6 (List.mem_of_getElem? (i := 126) rfl)) rfl), rfl, (mj_tw (mj_i1 (List.mem_of_getElem? (i := 26) rfl)) rfl), ⟨by decide, by decide, by decide +kernel⟩, by decide, by decide, (fun h => absurd h (by decide))⟩
theorem mj_m312 : ∀ M, mj_ms7[32]? = some M → mj_mok M := fun M h => by
  cases h
  exact ⟨(mj_tw (mj_i3 (List.mem_of_getElem? (i := 81) rfl)) rfl), rfl, (mj_tw (mj_i1 (List.mem_of_getElem? (i := 0) rfl)) rfl), ⟨by decide, by decide, by decide +kernel⟩, by decide, by decide, (fun h => absurd h (by decide))⟩
theorem mj_m313 : ∀ M, mj_ms7[33]? = some M → mj_mok M := fun M h => by
  cases h
  exact ⟨(mj_tw (mj_i4 (List.mem_of_getElem? (i := 223) rfl)) rfl), rfl, (mj_tw (mj_i1 (List.mem_of_getElem? (i := 0) rfl)) rfl), ⟨by decide, by decide, by decide +kernel⟩, by decide, by decide, (fun h => absurd h (by decide))⟩
theorem mj_m314 : ∀ M, mj_ms7[34]? = some M → mj_mok M := fun M h => by
  cases h
  exact ⟨(mj_tw (mj_i5 (List.mem_of_getElem? (i := 46) rfl)) rfl), rfl, (mj_tw (mj_i1 (List.mem_of_getElem? (i := 0) rfl)) rfl), ⟨by decide, by decide, by decide +kernel⟩, by decide, by decide, (fun h => absurd h (by decide))⟩
theorem mj_m315 : ∀ M, mj_ms7[35]? = some M → mj_mok M := fun M h => by
  cases h
  exact ⟨(mj_tw (mj_i5 (List.mem_of_getElem? (i := 71) rfl)) rfl), rfl, (mj_tw (mj_i1 (List.mem_of_getElem? (i := 0) rfl)) rfl), ⟨by decide, by decide, by decide +kernel⟩, by decide, by decide, (fun h => absurd h (by decide))⟩
theorem mj_m316 : ∀ M, mj_ms7[36]? = some M → mj_mok M := fun M h => by
  cases h
  exact ⟨(mj_tw (mj_i5 (List.mem_of_getElem? (i := 93) rfl)) rfl), rfl, (mj_tw (mj_i1 (List.mem_of_getElem? (i := 0) rfl)) rfl), ⟨by decide, by decide, by decide +kernel⟩, by decide, by decide, (fun h => absurd h (by decide))⟩
theorem mj_m317 : ∀ M, mj_ms7[37]? = some M → mj_mok M := fun M h => by
  cases h
  exact ⟨(mj_tw (mj_i5 (List.mem_of_getElem? (i := 100) rfl)) rfl), rfl, (mj_tw (mj_i1 (List.mem_of_getElem? (i := 0) rfl)) rfl), ⟨by decide, by decide, by decide +kernel⟩, by decide, by decide, (fun h => absurd h (by decide))⟩
theorem mj_m318 : ∀ M, mj_ms7[38]? = some M → mj_mok M := fun M h => by
  cases h
  exact ⟨(mj_tw (mj_i5 (List.mem_of_getElem? (i := 113) rfl)) rfl), rfl, (mj_tw (mj_i1 (List.mem_of_getElem? (i := 0) rfl)) rfl), ⟨by decide, by decide, by decide +kernel⟩, by decide, by decide, (fun h => absurd h (by decide))⟩
theorem mj_m319 : ∀ M, mj_ms7[39]? = some M → mj_mok M := fun M h => by
  cases h
  exact ⟨(mj_tw (mj_i5 (List.mem_of_getElem? (i := 121) rfl)) rfl), rfl, (mj_tw (mj_i1 (List.mem_of_getElem? (i := 0) rfl)) rfl), ⟨by decide, by decide, by decide +kernel⟩, by decide, by decide, (fun h => absurd h (by decide))⟩
theorem mj_mq7 (i : Nat) (M : mj_M) (h : mj_ms7[i]? = some M) (hl : M.1.name ≠ "law") : mj_mok M := by
  match i, h with
  | 0, h => exact mj_m280 M h
  | 1, h => exact mj_m281 M h
  | 2, h => exact mj_m282 M h
  | 3, h => exact mj_m283 M h
  | 4, h => exact mj_m284 M h
  | 5, h => exact mj_m285 M h
  | 6, h => exact mj_m286 M h
  | 7, h => exact mj_m287 M h
  | 8, h => exact mj_m288 M h
  | 9, h => exact mj_m289 M h
  | 10, h => exact mj_m290 M h
  | 11, h => exact mj_m291 M h
  | 12, h => exact mj_m292 M h
  | 13, h => exact mj_m293 M h
  | 14, h => exact mj_m294 M h
  | 15, h => exact mj_m295 M h
  | 16, h => exact mj_m296 M h
  | 17, h => exact mj_m297 M h
  | 18, h => exact mj_m298 M h
  | 19, h => exact mj_m299 M h
  | 20, h => exact mj_m300 M h
  | 21, h => exact mj_m301 M h
  | 22, h => exact mj_m302 M h
  | 23, h => exact mj_m303 M h
  | 24, h => exact mj_m304 M h
  | 25, h => exact mj_m305 M h
  | 26, h => exact mj_m306 M h
  | 27, h => exact mj_m307 M h
  | 28, h => exact mj_m308 M h
  | 29, h => exact mj_m309 M h
  | 30, h => exact mj_m310 M h
  | 31, h => exact mj_m311 M h
  | 32, h => exact mj_m312 M h
  | 33, h => exact mj_m313 M h
  | 34, h => exact mj_m314 M h
  | 35, h => exact mj_m315 M h
  | 36, h => exact mj_m316 M h
  | 37, h => exact mj_m317 M h
  | 38, h => exact mj_m318 M h
  | 39, h => exact mj_m319 M h
  | i + 40, h => simp [mj_ms7] at h
theorem mj_m320 : ∀ M, mj_ms8[0]? = some M → mj_mok M := fun M h => by
  cases h
  exact ⟨(mj_tw (mj_i5 (List.mem_of_getElem? (i := 133) rfl)) rfl), rfl, (mj_tw (mj_i1 (List.mem_of_getElem? (i := 0) rfl)) rfl), ⟨by decide, by decide, by decide +kernel⟩, by decide, by decide, (fun h => absurd h (by decide))⟩
theorem mj_m321 : ∀ M, mj_ms8[1]? = some M → mj_mok M := fun M h => by
  cases h
  exact ⟨(mj_tw (mj_i5 (List.mem_of_getElem? (i := 148) rfl)) rfl), rfl, (mj_tw (mj_i1 (List.mem_of_getElem? (i := 0) rfl)) rfl), ⟨by decide, by decide, by decide +kernel⟩, by decide, by decide, (fun h => absurd h (by decide))⟩
theorem mj_m322 : ∀ M, mj_ms8[2]? = some M → mj_mok M := fun M h => by
  cases h
  exact ⟨(mj_tw (mj_i5 (List.mem_of_getElem? (i := 155) rfl)) rfl), rfl, (mj_tw (mj_i1 (List.mem_of_getElem? (i := 0) rfl)) rfl), ⟨by decide, by decide, by decide +kernel⟩, by decide, by decide, (fun h => absurd h (by decide))⟩
theorem mj_m323 : ∀ M, mj_ms8[3]? = some M → mj_mok M := fun M h => by
  cases h
  exact ⟨(mj_tw (mj_i5 (List.mem_of_getElem? (i := 176) rfl)) rfl), rfl, (mj_tw (mj_i1 (List.mem_of_getElem? (i := 0) rfl)) rfl), ⟨by decide, by decide, by decide +kernel⟩, by decide, by decide, (fun h => absurd h (by decide))⟩
theorem mj_m324 : ∀ M, mj_ms8[4]? = some M → mj_mok M := fun M h => by
  cases h
  exact ⟨(mj_tw (mj_i5 (List.mem_of_getElem? (i := 183) rfl)) rfl), rfl, (mj_tw (mj_i1 (List.mem_of_getElem? (i := 0) rfl)) rfl), ⟨by decide, by decide, by decide +kernel⟩, by decide, by decide, (fun h => absurd h (by decide))⟩
theorem mj_m325 : ∀ M, mj_ms8[5]? = some M → mj_mok M := fun M h => by
  cases h
  exact ⟨(mj_tw (mj_i5 (List.mem_of_getElem? (i := 198) rfl)) rfl), rfl, (mj_tw (mj_i1 (List.mem_of_getElem? (i := 0) rfl)) rfl), ⟨by decide, by decide, by decide +kernel⟩, by decide, by decide, (fun h => absurd h (by decide))⟩
theorem mj_m326 : ∀ M, mj_ms8[6]? = some M → mj_mok M := fun M h => by
  cases h
  exact ⟨(mj_tw (mj_i5 (List.mem_of_getElem? (i := 209) rfl)) rfl), rfl, (mj_tw (mj_i1 (List.mem_of_getElem? (i := 0) rfl)) rfl), ⟨by decide, by decide, by decide +kernel⟩, by decide, by decide, (fun h => absurd h (by decide))⟩
theorem mj_m327 : ∀ M, mj_ms8[7]? = some M → mj_mok M := fun M h => by
  cases h
  exact ⟨(mj_tw (mj_i5 (List.mem_of_getElem? (i := 216) rfl)) rfl), rfl, (mj_tw (mj_i1 (List.mem_of_getElem? (i := 0) rfl)) rfl), ⟨by decide, by decide, by decide +kernel⟩, by decide, by decide, (fun h => absurd h (by decide))⟩
theorem mj_m328 : ∀ M, mj_ms8[8]? = some M → mj_mok M := fun M h => by
  cases h
  exact ⟨(mj_tw (mj_i5 (List.mem_of_getElem? (i := 229) rfl)) rfl), rfl, (mj_tw (mj_i1 (List.mem_of_getElem? (i := 0) rfl)) rfl), ⟨by decide, by decide, by decide +kernel⟩, by decide, by decide, (fun h => absurd h (by decide))⟩
theorem mj_m329 : ∀ M, mj_ms8[9]? = some M → mj_mok M := fun M h => by
  cases h
  exact ⟨(mj_tw (mj_i6 (List.mem_of_getElem? (i := 4) rfl)) rfl), rfl, (mj_tw (mj_i1 (List.mem_of_getElem? (i := 0) rfl)) rfl), ⟨by decide, by decide, by decide +kernel⟩, by decide, by decide, (fun h => absurd h (by decide))⟩
theorem mj_m330 : ∀ M, mj_ms8[10]? = some M → mj_mok M := fun M h => by
  cases h
  exact ⟨(mj_tw (mj_i6 (List.mem_of_getElem? (i := 11) rfl)) rfl), rfl, (mj_tw (mj_i1 (List.mem_of_getElem? (i := 0) rfl)) rfl), ⟨by decide, by decide, by decide +kernel⟩, by decide, by decide, (fun h => absurd h (by decide))⟩
theorem mj_m331 : ∀ M, mj_ms8[11]? = some M → mj_mok M := fun M h => by
  cases h
  exact ⟨(mj_tw (mj_i6 (List.mem_of_getElem? (i := 19) rfl)) rfl), rfl, (mj_tw (mj_i1 (List.mem_of_getElem? (i := 0) rfl)) rfl), ⟨by decide, by decide, by decide +kernel⟩, by decide, by decide, (fun h => absurd h (by decide))⟩
theorem mj_m332 : ∀ M, mj_ms8[12]? = some M → mj_mok M := fun M h => by
  cases h
  exact ⟨(mj_tw (mj_i6 (List.mem_of_getElem? (i := 30) rfl)) rfl), rfl, (mj_tw (mj_i1 (List.mem_of_getElem? (i := 0) rfl)) rfl), ⟨by decide, by decide, by decide +kernel⟩, by decide, by decide, (fun h => absurd h (by decide))⟩
theorem mj_m333 : ∀ M, mj_ms8[13]? = some M → mj_mok M := fun M h => by
  cases h
  exact ⟨(mj_tw (mj_i6 (List.mem_of_getElem? (i := 77) rfl)) rfl), rfl, (mj_tw (mj_i1 (List.mem_of_getElem? (i := 0) rfl)) rfl), ⟨by decide, by decide, by decide +kernel⟩, by decide, by decide, (fun h => absurd h (by decide))⟩
theorem mj_m334 : ∀ M, mj_ms8[14]? = some M → mj_mok M := fun M h => by
  cases h
  exact ⟨(mj_tw (mj_i6 (List.mem_of_getElem? (i := 112) rfl)) rfl), rfl, (mj_tw (mj_i1 (List.mem_of_getElem? (i := 0) rfl)) rfl), ⟨by decide, by decide, by decide +kernel⟩, by decide, by decide, (fun h => absurd h (by decide))⟩
theorem mj_m335 : ∀ M, mj_ms8[15]? = some M → mj_mok M := fun M h => by
  cases h
  exact ⟨(mj_tw (mj_i6 (List.mem_of_getElem? (i := 129) rfl)) rfl), rfl, (mj_tw (mj_i1 (List.mem_of_getElem? (i := 0) rfl)) rfl), ⟨by decide, by decide, by decide +kernel⟩, by decide, by decide, (fun h => absurd h (by decide))⟩
theorem mj_m337 : ∀ M, mj_ms8[17]? = some M → mj_mok M := fun M h => by
  cases h
  exact ⟨(mj_tw (mj_i3 (List.mem_of_getElem? (i := 187) rfl)) rfl), rfl, (mj_tw (mj_i1 (List.mem_of_getElem? (i := 18) rfl)) rfl), ⟨by decide, by decide, by decide +kernel⟩, by decide, by decide, (fun h => absurd h (by decide))⟩
theorem mj_m338 : ∀ M, mj_ms8[18]? = some M → mj_mok M := fun M h => by
  cases h
  exact ⟨(mj_tw (mj_i3 (List.mem_of_getElem? (i := 191) rfl)) rfl), rfl, (mj_tw (mj_i1 (List.mem_of_getElem? (i := 18) rfl)) rfl), ⟨by decide, by decide, by decide +kernel⟩, by decide, by decide, (fun h => absurd h (by decide))⟩
theorem mj_m339 : ∀ M, mj_ms8[19]? = some M → mj_mok M := fun M h => by
  cases h
  exact ⟨(mj_tw (mj_i3 (List.mem_of_getElem? (i := 197) rfl)) rfl), rfl, (mj_tw (mj_i1 (List.mem_of_getElem? (i := 18) rfl)) rfl), ⟨by decide, by decide, by decide +kernel⟩, by decide, by decide, (fun h => absurd h (by decide))⟩
theorem mj_m340 : ∀ M, mj_ms8[20]? = some M → mj_mok M := fun M h => by
  cases h
  exact ⟨(mj_tw (mj_i3 (List.mem_of_getElem? (i := 201) rfl)) rfl), rfl, (mj_tw (mj_i1 (List.mem_of_getElem? (i := 18) rfl)) rfl), ⟨by decide, by decide, by decide +kernel⟩, by decide, by decide, (fun h => absurd h (by decide))⟩
theorem mj_m341 : ∀ M, mj_ms8[21]? = some M → mj_mok M := fun M h => by
  cases h
  exact ⟨(mj_tw (mj_i3 (List.mem_of_getElem? (i := 207) rfl)) rfl), rfl, (mj_tw (mj_i1 (List.mem_of_getElem? (i := 18) rfl)) rfl), ⟨by decide, by decide, by decide +kernel⟩, by decide, by decide, (fun h => absurd h (by decide))⟩
theorem mj_m342 : ∀ M, mj_ms8[22]? = some M → mj_mok M := fun M h => by
  cases h
  exact ⟨(mj_tw (mj_i4 (List.mem_of_getElem? (i := 4) rfl)) rfl), rfl, (mj_tw (mj_i1 (List.mem_of_getElem? (i := 18) rfl)) rfl), ⟨by decide, by decide, by decide +kernel⟩, by decide, by decide, (fun h => absurd h (by decide))⟩
theorem mj_m343 : ∀ M, mj_ms8[23]? = some M → mj_mok M := fun M h => by
  cases h
  exact ⟨(mj_tw (mj_i4 (List.mem_of_getElem? (i := 8) rfl)) rfl), rfl, (mj_tw (mj_i1 (List.mem_of_getElem? (i := 18) rfl)) rfl), ⟨by decide, by decide, by decide +kernel⟩, by decide, by decide, (fun h => absurd h (by decide))⟩
theorem mj_m344 : ∀ M, mj_ms8[24]? = some M → mj_mok M := fun M h => by
  cases h
  exact ⟨(mj_tw (mj_i3 (List.mem_of_getElem? (i := 204) rfl)) rfl), rfl, (mj_tw (mj_i1 (List.mem_of_getElem? (i := 19) rfl)) rfl), ⟨by decide, by decide, by decide +kernel⟩, by decide, by decide, (fun h => absurd h (by decide))⟩
theorem mj_m345 : ∀ M, mj_ms8[25]? = some M → mj_mok M := fun M h => by
  cases h
  exact ⟨(mj_tw (mj_i4 (List.mem_of_getElem? (i := 12) rfl)) rfl), rfl, (mj_tw (mj_i1 (List.mem_of_getElem? (i := 19) rfl)) rfl), ⟨by decide, by decide, by decide +kernel⟩, by decide, by decide, (fun h => absurd h (by decide))⟩
theorem mj_m346 : ∀ M, mj_ms8[26]? = some M → mj_mok M := fun M h => by
  cases h
  exact ⟨(mj_tw (mj_i4 (List.mem_of_getElem? (i := 15) rfl)) rfl), rfl, (mj_tw (mj_i1 (List.mem_of_getElem? (i := 19) rfl)) rfl), ⟨by decide, by decide, by decide +kernel⟩, by decide, by decide, (fun h => absurd h (by decide))⟩
theorem mj_m347 : ∀ M, mj_ms8[27]? = some M → mj_mok M := fun M h => by
  cases h
  exact ⟨(mj_tw (mj_i4 (List.mem_of_getElem? (i := 20) rfl)) rfl), rfl, (mj_tw (mj_i1 (List.mem_of_getElem? (i := 19) rfl)) rfl), ⟨by decide, by decide, by decide +kernel⟩, by decide, by decide, (fun h => absurd h (by decide))⟩
theorem mj_m348 : ∀ M, mj_ms8[28]? = some M → mj_mok M := fun M h => by
  cases h
  exact ⟨(mj_tw (mj_i2 (List.mem_of_getElem? (i := 88) rfl)) rfl), rfl, (mj_tw (mj_i1 (List.mem_of_getElem? (i := 23) rfl)) rfl), ⟨by decide, by decide, by decide +kernel⟩, by decide, by decide, (fun h => absurd h (by decide))⟩
theorem mj_m349 : ∀ M, mj_ms8[29]? = some M → mj_mok M := fun M h => by
  cases h
  exact ⟨(mj_tw (mj_i6 (List.mem_of_getElem? (i := 105) rfl)) rfl), rfl, (mj_tw (mj_i1 (List.mem_of_getElem? (i := 25) rfl)) rfl), ⟨by decide, by decide, by decide +kernel⟩, by decide, by decide, (fun h => absurd h (by decide))⟩
theorem mj_m350 : ∀ M, mj_ms8[30]? = some M → mj_mok M := fun M h => by
  cases h
  exact ⟨(mj_tw (mj_i3 (List.mem_of_getElem? (i := 163) rfl)) rfl), rfl, (mj_tw (mj_i1 (List.mem_of_getElem? (i := 15) rfl)) rfl), ⟨by decide, by decide, by decide +kernel⟩, by decide, by decide, (fun h => absurd h (by decide))⟩
theorem mj_m351 : ∀ M, mj_ms8[31]? = some M → mj_mok M := fun M h => by
  cases h
  exact ⟨(mj_tw (mj_i6 (List.mem_of_getElem? (i := 88) rfl)) rfl), rfl, (mj_tw (mj_i1 (List.mem_of_getElem? (i := 15) rfl)) rfl), ⟨by decide, by decide, by decide +kernel⟩, by decide, by decide, (fun h => absurd h (by decide))⟩
theorem mj_m352 : ∀ M, mj_ms8[32]? = some M → mj_mok M := fun M h => by
  cases h
  exact ⟨(mj_tw (mj_i3 (List.mem_of_getElem? (i := 212) rfl)) rfl), rfl, (mj_tw (mj_i1 (List.mem_of_getElem? (i := 20) rfl)) rfl), ⟨by decide, by decide, by decide +kernel⟩, by decide, by decide, (fun h => absurd h (by decide))⟩
theorem mj_mq8 (i : Nat) (M : mj_M) (h : mj_ms8[i]? = some M) (hl : M.1.name ≠ "law") : mj_mok M := by
  match i, h with
  | 0, h => exact mj_m320 M h
  | 1, h => exact mj_m321 M h
  | 2, h => exact mj_m322 M h
  | 3, h => exact mj_m323 M h
  | 4, h => exact mj_m324 M h
  | 5, h => exact mj_m325 M h
  | 6, h => exact mj_m326 M h
  | 7, h => exact mj_m327 M h
  | 8, h => exact mj_m328 M h
  | 9, h => exact mj_m329 M h
  | 10, h => exact mj_m330 M h
  | 11, h => exact mj_m331 M h
  | 12, h => exact mj_m332 M h
  | 13, h => exact mj_m333 M h
  | 14, h => exact mj_m334 M h
  | 15, h => exact mj_m335 M h
  | 16, h => cases h; exact absurd rfl hl
  | 17, h => exact mj_m337 M h
  | 18, h => exact mj_m338 M h
  | 19, h => exact mj_m339 M h
  | 20, h => exact mj_m340 M h
  | 21, h => exact mj_m341 M h
  | 22, h => exact mj_m342 M h
  | 23, h => exact mj_m343 M h
  | 24, h => exact mj_m344 M h
  | 25, h => exact mj_m345 M h
  | 26, h => exact mj_m346 M h
  | 27, h => exact mj_m347 M h
  | 28, h => exact mj_m348 M h
  | 29, h => exact mj_m349 M h
  | 30, h => exact mj_m350 M h
  | 31, h => exact mj_m351 M h
  | 32, h => exact mj_m352 M h
  | i + 33, h => simp [mj_ms8] at h
theorem mj_meth_ok {y : Nat} {M : mj_M} (h : mj_meth y = some M) (hl : M.1.name ≠ "law") : mj_mok M := by
  unfold mj_meth at h
  split at h
  · exact mj_mq0 _ M h hl
  · exact mj_mq1 _ M h hl
  · exact mj_mq2 _ M h hl
  · exact mj_mq3 _ M h hl
  · exact mj_mq4 _ M h hl
  · exact mj_mq5 _ M h hl
  · exact mj_mq6 _ M h hl
  · exact mj_mq7 _ M h hl
  · exact mj_mq8 _ M h hl
  · cases h
theorem mj_vw {ci : Nat} (h : ci < 10) : vwCl[ci]? = some (mj_cls ci, mj_T ci, mj_N ci) := by
  match ci, h with
  | 0, _ => rfl
  | 1, _ => rfl
  | 2, _ => rfl
  | 3, _ => rfl
  | 4, _ => rfl
  | 5, _ => rfl
  | 6, _ => rfl
  | 7, _ => rfl
  | 8, _ => rfl
  | 9, _ => rfl
  | ci + 10, h => omega
theorem mj_tyok {ci : Nat} (h : ci < 10) : ∀ k, k < mj_N ci → parseFieldDescriptor (mj_T ci k).2.2.1 = some (mj_ty ci k) := by
  match ci, h with
  | 0, _ => exact tyX0_ok
  | 1, _ => exact tyX1_ok
  | 2, _ => exact tyX2_ok
  | 3, _ => exact tyX3_ok
  | 4, _ => exact tyX5_ok
  | 5, _ => exact tyX6_ok
  | 6, _ => exact tyX7_ok
  | 7, _ => exact tyX8_ok
  | 8, _ => exact tyX9_ok
  | 9, _ => exact tyX10_ok
  | ci + 10, h => omega
theorem mj_nmok {ci : Nat} (h : ci < 10) : ∀ a, a < mj_N ci → ∀ b, b < mj_N ci → a ≠ b → (mj_T ci a).2.1 ≠ (mj_T ci b).2.1 := by
  match ci, h with
  | 0, _ => exact nmX0
  | 1, _ => exact nmX1
  | 2, _ => exact nmX2
  | 3, _ => exact nmX3
  | 4, _ => exact nmX5
  | 5, _ => exact nmX6
  | 6, _ => exact nmX7
  | 7, _ => exact nmX8
  | 8, _ => exact nmX9
  | 9, _ => exact nmX10
  | ci + 10, h => omega
theorem mj_fl0 : ∀ w ∈ u_ws (mj_cls 0) (mj_T 0) (mj_N 0), w ∈ mj_tbl := by
  show ∀ w ∈ [u_lay (mj_cls 0) (mj_T 0) 0, u_lay (mj_cls 0) (mj_T 0) 1, u_lay (mj_cls 0) (mj_T 0) 2, u_lay (mj_cls 0) (mj_T 0) 3, u_lay (mj_cls 0) (mj_T 0) 4, u_lay (mj_cls 0) (mj_T 0) 5, u_lay (mj_cls 0) (mj_T 0) 6, u_lay (mj_cls 0) (mj_T 0) 7, u_lay (mj_cls 0) (mj_T 0) 8], w ∈ mj_tbl
  simp only [List.forall_mem_cons]
  exact ⟨(mj_tw (mj_i1 (List.mem_of_getElem? (i := 62) rfl)) rfl), (mj_tw (mj_i1 (List.mem_of_getElem? (i := 64) rfl)) rfl), (mj_tw (mj_i1 (List.mem_of_getElem? (i := 66) rfl)) rfl), (mj_tw (mj_i1 (List.mem_of_getElem? (i := 68) rfl)) rfl), (mj_tw (mj_i1 (List.mem_of_getElem? (i := 70) rfl)) rfl), (mj_tw (mj_i1 (List.mem_of_getElem? (i := 72) rfl)) rfl), (mj_tw (mj_i1 (List.mem_of_getElem? (i := 74) rfl)) rfl), (mj_tw (mj_i1 (List.mem_of_getElem? (i := 76) rfl)) rfl), (mj_tw (mj_i1 (List.mem_of_getElem? (i := 78) rfl)) rfl), fun _ h => nomatch h⟩
theorem mj_fl1 : ∀ w ∈ u_ws (mj_cls 1) (mj_T 1) (mj_N 1), w ∈ mj_tbl := by
  show ∀ w ∈ [u_lay (mj_cls 1) (mj_T 1) 0, u_lay (mj_cls 1) (mj_T 1) 1, u_lay (mj_cls 1) (mj_T 1) 2], w ∈ mj_tbl
  simp only [List.forall_mem_cons]
  exact ⟨(mj_tw (mj_i1 (List.mem_of_getElem? (i := 172) rfl)) rfl), (mj_tw (mj_i1 (List.mem_of_getElem? (i := 174) rfl)) rfl), (mj_tw (mj_i1 (List.mem_of_getElem? (i := 176) rfl)) rfl), fun _ h => nomatch h⟩
theorem mj_fl2 : ∀ w ∈ u_ws (mj_cls 2) (mj_T 2) (mj_N 2), w ∈ mj_tbl := by
  show ∀ w ∈ [u_lay (mj_cls 2) (mj_T 2) 0], w ∈ mj_tbl
  simp only [List.forall_mem_cons]
  exact ⟨(mj_tw (mj_i1 (List.mem_of_getElem? (i := 206) rfl)) rfl), fun _ h => nomatch h⟩
theorem mj_fl3 : ∀ w ∈ u_ws (mj_cls 3) (mj_T 3) (mj_N 3), w ∈ mj_tbl := by
  show ∀ w ∈ [u_lay (mj_cls 3) (mj_T 3) 0], w ∈ mj_tbl
  simp only [List.forall_mem_cons]
  exact ⟨(mj_tw (mj_i1 (List.mem_of_getElem? (i := 48) rfl)) rfl), fun _ h => nomatch h⟩
theorem mj_fl4 : ∀ w ∈ u_ws (mj_cls 4) (mj_T 4) (mj_N 4), w ∈ mj_tbl := by
  show ∀ w ∈ [u_lay (mj_cls 4) (mj_T 4) 0, u_lay (mj_cls 4) (mj_T 4) 1, u_lay (mj_cls 4) (mj_T 4) 2], w ∈ mj_tbl
  simp only [List.forall_mem_cons]
  exact ⟨(mj_tw (mj_i1 (List.mem_of_getElem? (i := 190) rfl)) rfl), (mj_tw (mj_i1 (List.mem_of_getElem? (i := 192) rfl)) rfl), (mj_tw (mj_i1 (List.mem_of_getElem? (i := 194) rfl)) rfl), fun _ h => nomatch h⟩
theorem mj_fl5 : ∀ w ∈ u_ws (mj_cls 5) (mj_T 5) (mj_N 5), w ∈ mj_tbl := by
  show ∀ w ∈ [u_lay (mj_cls 5) (mj_T 5) 0, u_lay (mj_cls 5) (mj_T 5) 1, u_lay (mj_cls 5) (mj_T 5) 2, u_lay (mj_cls 5) (mj_T 5) 3, u_lay (mj_cls 5) (mj_T 5) 4], w ∈ mj_tbl
  simp only [List.forall_mem_cons]
  exact ⟨(mj_tw (mj_i1 (List.mem_of_getElem? (i := 152) rfl)) rfl), (mj_tw (mj_i1 (List.mem_of_getElem? (i := 154) rfl)) rfl), (mj_tw (mj_i1 (List.mem_of_getElem? (i := 156) rfl)) rfl), (mj_tw (mj_i1 (List.mem_of_getElem? (i := 158) rfl)) rfl), (mj_tw (mj_i1 (List.mem_of_getElem? (i := 160) rfl)) rfl), fun _ h => nomatch h⟩
theorem mj_fl6 : ∀ w ∈ u_ws (mj_cls 6) (mj_T 6) (mj_N 6), w ∈ mj_tbl := by
  show ∀ w ∈ [u_lay (mj_cls 6) (mj_T 6) 0, u_lay (mj_cls 6) (mj_T 6) 1, u_lay (mj_cls 6) (mj_T 6) 2, u_lay (mj_cls 6) (mj_T 6) 3, u_lay (mj_cls 6) (mj_T 6) 4, u_lay (mj_cls 6) (mj_T 6) 5, u_lay (mj_cls 6) (mj_T 6) 6, u_lay (mj_cls 6) (mj_T 6) 7], w ∈ mj_tbl
  simp only [List.forall_mem_cons]
  exact ⟨(mj_tw (mj_i1 (List.mem_of_getElem? (i := 95) rfl)) rfl), (mj_tw (mj_i1 (List.mem_of_getElem? (i := 97) rfl)) rfl), (mj_tw (mj_i1 (List.mem_of_getElem? (i := 99) rfl)) rfl), (mj_tw (mj_i1 (List.mem_of_getElem? (i := 101) rfl)) rfl), (mj_tw (mj_i1 (List.mem_of_getElem? (i := 103) rfl)) rfl), (mj_tw (mj_i1 (List.mem_of_getElem? (i := 105) rfl)) rfl), (mj_tw (mj_i1 (List.mem_of_getElem? (i := 107) rfl)) rfl), (mj_tw (mj_i1 (List.mem_of_getElem? (i := 109) rfl)) rfl), fun _ h => nomatch h⟩
theorem mj_fl7 : ∀ w ∈ u_ws (mj_cls 7) (mj_T 7) (mj_N 7), w ∈ mj_tbl := by
  show ∀ w ∈ [u_lay (mj_cls 7) (mj_T 7) 0, u_lay (mj_cls 7) (mj_T 7) 1, u_lay (mj_cls 7) (mj_T 7) 2, u_lay (mj_cls 7) (mj_T 7) 3, u_lay (mj_cls 7) (mj_T 7) 4, u_lay (mj_cls 7) (mj_T 7) 5], w ∈ mj_tbl
  simp only [List.forall_mem_cons]
  exact ⟨(mj_tw (mj_i1 (List.mem_of_getElem? (i := 130) rfl)) rfl), (mj_tw (mj_i1 (List.mem_of_getElem? (i := 132) rfl)) rfl), (mj_tw (mj_i1 (List.mem_of_getElem? (i := 134) rfl)) rfl), (mj_tw (mj_i1 (List.mem_of_getElem? (i := 136) rfl)) rfl), (mj_tw (mj_i1 (List.mem_of_getElem? (i := 138) rfl)) rfl), (mj_tw (mj_i1 (List.mem_of_getElem? (i := 140) rfl)) rfl), fun _ h => nomatch h⟩
theorem mj_fl8 : ∀ w ∈ u_ws (mj_cls 8) (mj_T 8) (mj_N 8), w ∈ mj_tbl := by
  show ∀ w ∈ [u_lay (mj_cls 8) (mj_T 8) 0, u_lay (mj_cls 8) (mj_T 8) 1, u_lay (mj_cls 8) (mj_T 8) 2, u_lay (mj_cls 8) (mj_T 8) 3, u_lay (mj_cls 8) (mj_T 8) 4, u_lay (mj_cls 8) (mj_T 8) 5, u_lay (mj_cls 8) (mj_T 8) 6, u_lay (mj_cls 8) (mj_T 8) 7, u_lay (mj_cls 8) (mj_T 8) 8, u_lay (mj_cls 8) (mj_T 8) 9, u_lay (mj_cls 8) (mj_T 8) 10, u_lay (mj_cls 8) (mj_T 8) 11], w ∈ mj_tbl
  simp only [List.forall_mem_cons]
  exact ⟨(mj_tw (mj_i1 (List.mem_of_getElem? (i := 223) rfl)) rfl), (mj_tw (mj_i1 (List.mem_of_getElem? (i := 225) rfl)) rfl), (mj_tw (mj_i1 (List.mem_of_getElem? (i := 227) rfl)) rfl), (mj_tw (mj_i1 (List.mem_of_getElem? (i := 229) rfl)) rfl), (mj_tw (mj_i1 (List.mem_of_getElem? (i := 231) rfl)) rfl), (mj_tw (mj_i1 (List.mem_of_getElem? (i := 233) rfl)) rfl), (mj_tw (mj_i1 (List.mem_of_getElem? (i := 235) rfl)) rfl), (mj_tw (mj_i1 (List.mem_of_getElem? (i := 237) rfl)) rfl), (mj_tw (mj_i1 (List.mem_of_getElem? (i := 239) rfl)) rfl), (mj_tw (mj_i2 (List.mem_of_getElem? (i := 1) rfl)) rfl), (mj_tw (mj_i2 (List.mem_of_getElem? (i := 3) rfl)) rfl), (mj_tw (mj_i2 (List.mem_of_getElem? (i := 5) rfl)) rfl), fun _ h => nomatch h⟩
theorem mj_fl9 : ∀ w ∈ u_ws (mj_cls 9) (mj_T 9) (mj_N 9), w ∈ mj_tbl := by
  show ∀ w ∈ [u_lay (mj_cls 9) (mj_T 9) 0, u_lay (mj_cls 9) (mj_T 9) 1, u_lay (mj_cls 9) (mj_T 9) 2, u_lay (mj_cls 9) (mj_T 9) 3, u_lay (mj_cls 9) (mj_T 9) 4, u_lay (mj_cls 9) (mj_T 9) 5, u_lay (mj_cls 9) (mj_T 9) 6, u_lay (mj_cls 9) (mj_T 9) 7, u_lay (mj_cls 9) (mj_T 9) 8, u_lay (mj_cls 9) (mj_T 9) 9, u_lay (mj_cls 9) (mj_T 9) 10, u_lay (mj_cls 9) (mj_T 9) 11, u_lay (mj_cls 9) (mj_T 9) 12, u_lay (mj_cls 9) (mj_T 9) 13, u_lay (mj_cls 9) (mj_T 9) 14, u_lay (mj_cls 9) (mj_T 9) 15, u_lay (mj_cls 9) (mj_T 9) 16, u_lay (mj_cls 9) (mj_T 9) 17, u_lay (mj_cls 9) (mj_T 9) 18, u_lay (mj_cls 9) (mj_T 9) 19, u_lay (mj_cls 9) (mj_T 9) 20, u_lay (mj_cls 9) (mj_T 9) 21, u_lay (mj_cls 9) (mj_T 9) 22, u_lay (mj_cls 9) (mj_T 9) 23, u_lay (mj_cls 9) (mj_T 9) 24, u_lay (mj_cls 9) (mj_T 9) 25, u_lay (mj_cls 9) (mj_T 9) 26, u_lay (mj_cls 9) (mj_T 9) 27, u_lay (mj_cls 9) (mj_T 9) 28, u_lay (mj_cls 9) (mj_T 9) 29, u_lay (mj_cls 9) (mj_T 9) 30, u_lay (mj_cls 9) (mj_T 9) 31, u_lay (mj_cls 9) (mj_T 9) 32, u_lay (mj_cls 9) (mj_T 9) 33, u_lay (mj_cls 9) (mj_T 9) 34, u_lay (mj_cls 9) (mj_T 9) 35, u_lay (mj_cls 9) (mj_T 9) 36, u_lay (mj_cls 9) (mj_T 9) 37, u_lay (mj_cls 9) (mj_T 9) 38, u_lay (mj_cls 9) (mj_T 9) 39, u_lay (mj_cls 9) (mj_T 9) 40, u_lay (mj_cls 9) (mj_T 9) 41, u_lay (mj_cls 9) (mj_T 9) 42, u_lay (mj_cls 9) (mj_T 9) 43, u_lay (mj_cls 9) (mj_T 9) 44, u_lay (mj_cls 9) (mj_T 9) 45, u_lay (mj_cls 9) (mj_T 9) 46, u_lay (mj_cls 9) (mj_T 9) 47, u_lay (mj_cls 9) (mj_T 9) 48, u_lay (mj_cls 9) (mj_T 9) 49, u_lay (mj_cls 9) (mj_T 9) 50, u_lay (mj_cls 9) (mj_T 9) 51, u_lay (mj_cls 9) (mj_T 9) 52, u_lay (mj_cls 9) (mj_T 9) 53, u_lay (mj_cls 9) (mj_T 9) 54, u_lay (mj_cls 9) (mj_T 9) 55, u_lay (mj_cls 9) (mj_T 9) 56], w ∈ mj_tbl
  simp only [List.forall_mem_cons]
  exact ⟨(mj_tw (mj_i6 (List.mem_of_getElem? (i := 233) rfl)) rfl), (mj_tw (mj_i6 (List.mem_of_getElem? (i := 235) rfl)) rfl), (mj_tw (mj_i6 (List.mem_of_getElem? (i := 237) rfl)) rfl), (mj_tw (mj_i6 (List.mem_of_getElem? (i := 239) rfl)) rfl), (mj_tw (mj_i7 (List.mem_of_getElem? (i := 1) rfl)) rfl), (mj_tw (mj_i7 (List.mem_of_getElem? (i := 3) rfl)) rfl), (mj_tw (mj_i7 (List.mem_of_getElem? (i := 5) rfl)) rfl), (mj_tw (mj_i7 (List.mem_of_getElem? (i := 7) rfl)) rfl), (mj_tw (mj_i7 (List.mem_of_getElem? (i := 9) rfl)) rfl), (mj_tw (mj_i7 (List.mem_of_getElem? (i := 11) rfl)) rfl), (mj_tw (mj_i7 (List.mem_of_getElem? (i := 13) rfl)) rfl), (mj_tw (mj_i7 (List.mem_of_getElem? (i := 15) rfl)) rfl), (mj_tw (mj_i7 (List.mem_of_getElem? (i := 17) rfl)) rfl), (mj_tw (mj_i7 (List.mem_of_getElem? (i := 19) rfl)) rfl), (mj_tw (mj_i7 (List.mem_of_getElem? (i := 21) rfl)) rfl), (mj_tw (mj_i7 (List.mem_of_getElem? (i := 23) rfl)) rfl), (mj_tw (mj_i7 (List.mem_of_getElem? (i := 25) rfl)) rfl), (mj_tw (mj_i7 (List.mem_of_getElem? (i := 27) rfl)) rfl), (mj_tw (mj_i7 (List.mem_of_getElem? (i := 29) rfl)) rfl), (mj_tw (mj_i7 (List.mem_of_getElem? (i := 31) rfl)) rfl), (mj_tw (mj_i7 (List.mem_of_getElem? (i := 33) rfl)) rfl), (mj_tw (mj_i7 (List.mem_of_getElem? (i := 35) rfl)) rfl), (mj_tw (mj_i7 (List.mem_of_getElem? (i := 37) rfl)) rfl), (mj_tw (mj_i7 (List.mem_of_getElem? (i := 39) rfl)) rfl), (mj_tw (mj_i7 (List.mem_of_getElem? (i := 41) rfl)) rfl), (mj_tw (mj_i7 (List.mem_of_getElem? (i := 43) rfl)) rfl), (mj_tw (mj_i7 (List.mem_of_getElem? (i := 45) rfl)) rfl), (mj_tw (mj_i7 (List.mem_of_getElem? (i := 47) rfl)) rfl), (mj_tw (mj_i7 (List.mem_of_getElem? (i := 49) rfl)) rfl), (mj_tw (mj_i7 (List.mem_of_getElem? (i := 51) rfl)) rfl), (mj_tw (mj_i7 (List.mem_of_getElem? (i := 53) rfl)) rfl), (mj_tw (mj_i7 (List.mem_of_getElem? (i := 55) rfl)) rfl), (mj_tw (mj_i7 (List.mem_of_getElem? (i := 57) rfl)) rfl), (mj_tw (mj_i7 (List.mem_of_getElem? (i := 59) rfl)) rfl), (mj_tw (mj_i7 (List.mem_of_getElem? (i := 61) rfl)) rfl), (mj_tw (mj_i7 (List.mem_of_getElem? (i := 63) rfl)) rfl), (mj_tw (mj_i7 (List.mem_of_getElem? (i := 65) rfl)) rfl), (mj_tw (mj_i7 (List.mem_of_getElem? (i := 67) rfl)) rfl), (mj_tw (mj_i7 (List.mem_of_getElem? (i := 69) rfl)) rfl), (mj_tw (mj_i7 (List.mem_of_getElem? (i := 71) rfl)) rfl), (mj_tw (mj_i7 (List.mem_of_getElem? (i := 73) rfl)) rfl), (mj_tw (mj_i7 (List.mem_of_getElem? (i := 75) rfl)) rfl), (mj_tw (mj_i7 (List.mem_of_getElem? (i := 77) rfl)) rfl), (mj_tw (mj_i7 (List.mem_of_getElem? (i := 79) rfl)) rfl), (mj_tw (mj_i7 (List.mem_of_getElem? (i := 81) rfl)) rfl), (mj_tw (mj_i7 (List.mem_of_getElem? (i := 83) rfl)) rfl), (mj_tw (mj_i7 (List.mem_of_getElem? (i := 85) rfl)) rfl), (mj_tw (mj_i7 (List.mem_of_getElem? (i := 87) rfl)) rfl), (mj_tw (mj_i7 (List.mem_of_getElem? (i := 89) rfl)) rfl), (mj_tw (mj_i7 (List.mem_of_getElem? (i := 91) rfl)) rfl), (mj_tw (mj_i7 (List.mem_of_getElem? (i := 93) rfl)) rfl), (mj_tw (mj_i7 (List.mem_of_getElem? (i := 95) rfl)) rfl), (mj_tw (mj_i7 (List.mem_of_getElem? (i := 97) rfl)) rfl), (mj_tw (mj_i7 (List.mem_of_getElem? (i := 99) rfl)) rfl), (mj_tw (mj_i7 (List.mem_of_getElem? (i := 101) rfl)) rfl), (mj_tw (mj_i7 (List.mem_of_getElem? (i := 103) rfl)) rfl), (mj_tw (mj_i7 (List.mem_of_getElem? (i := 105) rfl)) rfl), fun _ h => nomatch h⟩
theorem mj_fl {ci : Nat} (h : ci < 10) : ∀ w ∈ u_ws (mj_cls ci) (mj_T ci) (mj_N ci), w ∈ mj_tbl := by
  match ci, h with
  | 0, _ => exact mj_fl0
  | 1, _ => exact mj_fl1
  | 2, _ => exact mj_fl2
  | 3, _ => exact mj_fl3
  | 4, _ => exact mj_fl4
  | 5, _ => exact mj_fl5
  | 6, _ => exact mj_fl6
  | 7, _ => exact mj_fl7
  | 8, _ => exact mj_fl8
  | 9, _ => exact mj_fl9
  | ci + 10, h => omega
theorem mj_inst {ci : Nat} (h : ci < 10) : Cond.instantiable (mj_cls ci) (mj_N ci) ∈ mj_tbl ∧ Cond.initialized (mj_cls ci) ∈ mj_tbl := by
  match ci, h with
  | 0, _ => exact ⟨(mj_tw (mj_i1 (List.mem_of_getElem? (i := 36) rfl)) rfl), (mj_tw (mj_i1 (List.mem_of_getElem? (i := 2) rfl)) rfl)⟩
  | 1, _ => exact ⟨(mj_tw (mj_i1 (List.mem_of_getElem? (i := 164) rfl)) rfl), (mj_tw (mj_i1 (List.mem_of_getElem? (i := 7) rfl)) rfl)⟩
  | 2, _ => exact ⟨(mj_tw (mj_i1 (List.mem_of_getElem? (i := 200) rfl)) rfl), (mj_tw (mj_i1 (List.mem_of_getElem? (i := 9) rfl)) rfl)⟩
  | 3, _ => exact ⟨(mj_tw (mj_i1 (List.mem_of_getElem? (i := 42) rfl)) rfl), (mj_tw (mj_i1 (List.mem_of_getElem? (i := 3) rfl)) rfl)⟩
  | 4, _ => exact ⟨(mj_tw (mj_i1 (List.mem_of_getElem? (i := 180) rfl)) rfl), (mj_tw (mj_i1 (List.mem_of_getElem? (i := 8) rfl)) rfl)⟩
  | 5, _ => exact ⟨(mj_tw (mj_i1 (List.mem_of_getElem? (i := 113) rfl)) rfl), (mj_tw (mj_i1 (List.mem_of_getElem? (i := 5) rfl)) rfl)⟩
  | 6, _ => exact ⟨(mj_tw (mj_i1 (List.mem_of_getElem? (i := 82) rfl)) rfl), (mj_tw (mj_i1 (List.mem_of_getElem? (i := 4) rfl)) rfl)⟩
  | 7, _ => exact ⟨(mj_tw (mj_i1 (List.mem_of_getElem? (i := 119) rfl)) rfl), (mj_tw (mj_i1 (List.mem_of_getElem? (i := 6) rfl)) rfl)⟩
  | 8, _ => exact ⟨(mj_tw (mj_i1 (List.mem_of_getElem? (i := 28) rfl)) rfl), (mj_tw (mj_i1 (List.mem_of_getElem? (i := 1) rfl)) rfl)⟩
  | 9, _ => exact ⟨(mj_tw (mj_i6 (List.mem_of_getElem? (i := 161) rfl)) rfl), (mj_tw (mj_i1 (List.mem_of_getElem? (i := 10) rfl)) rfl)⟩
  | ci + 10, h => omega
theorem mj_defok {ci : Nat} (h : ci < 10) : ∀ j, j < mj_N ci → defaultValue (mj_ty ci j) = vp_V (mj_def ci) j := by
  match ci, h with
  | 0, _ => decide +kernel
  | 1, _ => decide +kernel
  | 2, _ => decide +kernel
  | 3, _ => decide +kernel
  | 4, _ => decide +kernel
  | 5, _ => decide +kernel
  | 6, _ => decide +kernel
  | 7, _ => decide +kernel
  | 8, _ => decide +kernel
  | 9, _ => decide +kernel
  | ci + 10, h => omega
theorem mj_oi : Cond.instanceMethod objectInit ∈ mj_tbl ∧ Cond.code objectInit ⟨#[0xb1]⟩ 1 none ∈ mj_tbl := ⟨(mj_tw (mj_i1 (List.mem_of_getElem? (i := 33) rfl)) rfl), (mj_tw (mj_i1 (List.mem_of_getElem? (i := 34) rfl)) rfl)⟩
theorem mj_ac : Cond.native arraycopyName ∈ mj_tbl ∧ Cond.static arraycopyName ∈ mj_tbl ∧ Cond.initialized "java/lang/System" ∈ mj_tbl := ⟨(mj_tw (mj_i2 (List.mem_of_getElem? (i := 46) rfl)) rfl), (mj_tw (mj_i2 (List.mem_of_getElem? (i := 45) rfl)) rfl), (mj_tw (mj_i1 (List.mem_of_getElem? (i := 17) rfl)) rfl)⟩
theorem mj_math0 : Cond.static Lib.Math.min.name ∈ mj_tbl ∧ Cond.initialized "java/lang/Math" ∈ mj_tbl ∧ Cond.code Lib.Math.min.name Lib.Math.min.code 2 (some .int) ∈ mj_tbl := ⟨(mj_tw (mj_i2 (List.mem_of_getElem? (i := 116) rfl)) rfl), (mj_tw (mj_i1 (List.mem_of_getElem? (i := 16) rfl)) rfl), (mj_tw (mj_i2 (List.mem_of_getElem? (i := 117) rfl)) rfl)⟩
theorem mj_math1 : Cond.static Lib.Math.max.name ∈ mj_tbl ∧ Cond.initialized "java/lang/Math" ∈ mj_tbl ∧ Cond.code Lib.Math.max.name Lib.Math.max.code 2 (some .int) ∈ mj_tbl := ⟨(mj_tw (mj_i2 (List.mem_of_getElem? (i := 110) rfl)) rfl), (mj_tw (mj_i1 (List.mem_of_getElem? (i := 16) rfl)) rfl), (mj_tw (mj_i2 (List.mem_of_getElem? (i := 111) rfl)) rfl)⟩
theorem mj_math2 : Cond.static Lib.Math.abs.name ∈ mj_tbl ∧ Cond.initialized "java/lang/Math" ∈ mj_tbl ∧ Cond.code Lib.Math.abs.name Lib.Math.abs.code 1 (some .int) ∈ mj_tbl := ⟨(mj_tw (mj_i2 (List.mem_of_getElem? (i := 80) rfl)) rfl), (mj_tw (mj_i1 (List.mem_of_getElem? (i := 16) rfl)) rfl), (mj_tw (mj_i2 (List.mem_of_getElem? (i := 81) rfl)) rfl)⟩
theorem mj_ac_byte : Cond.arrayClass .byte ∈ mj_tbl := (mj_tw (mj_i1 (List.mem_of_getElem? (i := 51) rfl)) rfl)
theorem mj_ac_int : Cond.arrayClass .int ∈ mj_tbl := (mj_tw (mj_i1 (List.mem_of_getElem? (i := 52) rfl)) rfl)
theorem mj_ac_boolean : Cond.arrayClass .boolean ∈ mj_tbl := (mj_tw (mj_i1 (List.mem_of_getElem? (i := 197) rfl)) rfl)
theorem mj_ac_long : Cond.arrayClass .long ∈ mj_tbl := (mj_tw (mj_i1 (List.mem_of_getElem? (i := 198) rfl)) rfl)
