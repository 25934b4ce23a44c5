/-! the words of the two exceptions -/
abbrev mj_xnm : List String := ["java/lang/RuntimeException", "java/lang/Exception"]
def mj_xw (e : Nat) : List Cond := match e with
  | 0 => mj_axX "WivesQuarrels" 158 "java/util/NoSuchElementException" 13 prog_31_method_4_code mj_xnm
  | _ => mj_axX "WivesQuarrels" 84 "java/lang/IllegalArgumentException" 7 prog_18_method_2_code mj_xnm
theorem mj_x0i : ∀ w ∈ mj_xw 0, w ∈ tables_1 ∧ (goodWord w = true ∨ w ∈ mj_nest) := by decide +kernel
theorem mj_x1i : ∀ w ∈ mj_xw 1, w ∈ tables_1 ∧ (goodWord w = true ∨ w ∈ mj_nest) := by decide +kernel
theorem mj_x0o : ∀ w ∈ mj_xw 0, vx_ot w = true := by decide +kernel
theorem mj_x1o : ∀ w ∈ mj_xw 1, vx_ot w = true := by decide +kernel
theorem mj_xd : (∀ w ∈ mj_nest, w.onTables = true) := by decide +kernel
theorem mj_xb (e : Nat) (he : e < 2) {args : Array Value} {s : State} (hts : ∀ w ∈ mj_tbl, w.before args s = true) (hn : ∀ w ∈ mj_nest, va_Nw w s) : ∀ w ∈ mj_xw e, w.before args s = true := by
  have key : ∀ w ∈ mj_xw e, w ∈ tables_1 ∧ (goodWord w = true ∨ w ∈ mj_nest) := by
    match e, he with
    | 0, _ => exact mj_x0i
    | 1, _ => exact mj_x1i
    | e + 2, h => omega
  intro w hw
  obtain ⟨h1, h2 | h2⟩ := key w hw
  · exact hts w (mj_tw h1 h2)
  · exact va_Nw.use (mj_xd w h2) (hn w h2)
theorem mj_xini : Cond.initialized (mj_exn 0) ∈ mj_tbl ∧ Cond.initialized (mj_exn 1) ∈ mj_tbl := ⟨(mj_tw (mj_i1 (List.mem_of_getElem? (i := 24) rfl)) rfl), (mj_tw (mj_i1 (List.mem_of_getElem? (i := 14) rfl)) rfl)⟩
theorem mj_xc0 : decode prog_31_method_4_code 0 = .ok (.aload_n 0, 1) ∧ decode prog_31_method_4_code 1 = .ok (.aload_n 1, 1) ∧ decode prog_31_method_4_code 2 = .ok (.invokespecial 13, 3) ∧ decode prog_31_method_4_code 5 = .ok (.return_, 1) := ⟨by decide +kernel, by decide +kernel, by decide +kernel, by decide +kernel⟩
theorem mj_xc1 : decode prog_18_method_2_code 0 = .ok (.aload_n 0, 1) ∧ decode prog_18_method_2_code 1 = .ok (.aload_n 1, 1) ∧ decode prog_18_method_2_code 2 = .ok (.invokespecial 7, 3) ∧ decode prog_18_method_2_code 5 = .ok (.return_, 1) := ⟨by decide +kernel, by decide +kernel, by decide +kernel, by decide +kernel⟩
theorem mj_xfit : (∀ n ∈ mj_xnm, Bundle.fit n = true) ∧ Bundle.fit (mj_exn 0) = true ∧ Bundle.fit (mj_exn 1) = true := by decide +kernel
