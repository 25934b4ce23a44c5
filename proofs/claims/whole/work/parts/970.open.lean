/-! the class's TOKENS are opened: bytes are copied -/
theorem sby_fits : ∀ b, b < 256 → _root_.Jvm.fits .byte (.int (sby b)) = true := by decide +kernel
section
variable {X : mj_X} {d y pc : Nat} {L : mj_L} {st r : List Value} {w : mj_W} {M : mj_M} {s : mw_S}
theorem mw_q_copyb (hM : mj_meth y = some M) {ix a b ks kd n0 n1 : Nat} {n dp sp : Int32} (hd : decode M.2.1 pc = .ok (.invokestatic ix, 3)) (hp : mj_pool M.2.2.2.2.2.1 ix = some (4, a, b)) (hs : mw_rw ks = some (.byte, n0)) (hdd : mw_rw kd = some (.byte, n1)) (hcat : (r.map fun v => v.category).sum ≤ 8) (h1 : ¬ sp < 0) (h2 : ¬ dp < 0) (h3 : ¬ n < 0) (h4 : sp.toNatClampNeg + n.toNatClampNeg ≤ n0) (h5 : dp.toNatClampNeg + n.toNatClampNeg ≤ n1) (h6 : (List.range n.toNatClampNeg).all (fun i => _root_.Jvm.fits .byte (.int (s.1 ks (sp.toNatClampNeg + i)))) = true) : mj_exec X d y pc L (.int n :: .int dp :: .ref kd :: .int sp :: .ref ks :: r) (mw_U s) = mj_exec X d y (pc + 3) L r (mw_U (mw_c s ks kd sp.toNatClampNeg dp.toNatClampNeg n.toNatClampNeg)) := by
  have e1 := mw_rw_at hs
  have e2 := mw_rw_at hdd
  have f1 : (mw_U s).1[ks]? = some (.inl (.byte, n0, .inl (s.1 ks))) := by rw [mw_at, e1]; rfl
  have f2 : (mw_U s).1[kd]? = some (.inl (.byte, n1, .inl (s.1 kd))) := by rw [mw_at, e2]; rfl
  refine mj_xi hM hd (show (if 3 = 3 then mj_invs (mj_pool M.2.2.2.2.2.1 ix) pc L (.int n :: .int dp :: .ref kd :: .int sp :: .ref ks :: r) (mw_U s) else none) = _ from ?_)
  rw [if_pos rfl, hp]
  simp only [mj_invs, mj_copy]
  rw [if_pos ⟨mw_lt e1, mw_lt e2, hcat, h1, h2, h3⟩, f1, f2]
  simp only
  rw [if_pos ⟨h4, h5, h6⟩]
  have e : va_cpy (s.1 ks) (s.1 kd) sp.toNatClampNeg dp.toNatClampNeg n.toNatClampNeg = (mw_c s ks kd sp.toNatClampNeg dp.toNatClampNeg n.toNatClampNeg).1 kd := by
    funext b
    show _ = (if kd = kd ∧ _ then _ else _)
    unfold va_cpy
    simp only [true_and]
  rw [e]
  rw [← mw_set (s := s) (t := mw_c s ks kd sp.toNatClampNeg dp.toNatClampNeg n.toNatClampNeg) e2 (fun i hi => ⟨by funext b; exact if_neg (fun (z : i = kd ∧ _) => hi z.1), rfl⟩) rfl]
  rfl
end
section
variable {X : mj_X} {d : Nat} {s : mw_S} {tp : Nat → Nat} {n : Nat}
theorem d130_34 : decode prog_10_method_2_code 34 = .ok (.aload_n 0, 1) := by decide +kernel
theorem d130_35 : decode prog_10_method_2_code 35 = .ok (.iconst 0, 1) := by decide +kernel
theorem d130_36 : decode prog_10_method_2_code 36 = .ok (.putfield 22, 3) := by decide +kernel
theorem d130_39 : decode prog_10_method_2_code 39 = .ok (.aload_n 0, 1) := by decide +kernel
theorem d130_40 : decode prog_10_method_2_code 40 = .ok (.invokevirtual 46, 3) := by decide +kernel
theorem mw_p7_46 : mj_pool 7 46 = some (2, 131, 1) := by decide +kernel
theorem b130_0 {v : Int32} (hv : (if (nI 0) < (if (if (nI 700) < (nI 700) then nI 700 else nI 700) < v then (if (nI 700) < (nI 700) then nI 700 else nI 700) else v) then (if (if (nI 700) < (nI 700) then nI 700 else nI 700) < v then (if (nI 700) < (nI 700) then nI 700 else nI 700) else v) else nI 0) = v) : mj_exec X d 130 0 [some (.ref 23), some (.ref 1), some (.int v)] [] (mw_U s) = mj_exec X d 130 20 [some (.ref 23), some (.ref 1), some (.int v)] [] (mw_U (mw_p s 23 1 v)) := by
  refine (mj_q_aload_n mw_m130 d130_0 rfl (by decide)).trans ((mj_q_iconst mw_m130 d130_1 mw_k_iconst_0).trans ((mj_q_iload_n mw_m130 d130_2 rfl).trans ((mj_q_aload_n mw_m130 d130_3 rfl (mw_nea mw_r_1)).trans ((mw_q_alen mw_m130 d130_4 mw_r_1).trans ((mj_q_sipush mw_m130 d130_5 (v := nI 700) (by decide)).trans ((mj_q_min mw_m130 d130_8 mw_p7_31 (Nat.le_of_ble_eq_true rfl)).trans ((mj_q_min mw_m130 d130_11 mw_p7_31 (Nat.le_of_ble_eq_true rfl)).trans ((mj_q_max mw_m130 d130_14 mw_p7_37 (Nat.le_of_ble_eq_true rfl)).trans ((mw_q_puti mw_m130 d130_17 mw_p7_15 mw_c_23 mw_f_23_1 (by decide) rfl (.inl rfl)).trans ?_)))))))))
  rw [hv]
theorem b130_20 (hn : n ≤ 700) (h1 : s.1 23 1 = nI n) (hb : ∀ j, j < n → ∃ b, b < 256 ∧ s.1 1 j = sby b) : mj_exec X (d + 1) 130 20 [some (.ref 23), some (.ref 1), some (.int (nI n))] [] (mw_U s) = (mj_call X d 131 [.ref 23] (mw_U (mw_p (mw_c s 1 24 0 0 n) 23 3 (nI 0)))).bind (mj_bk X (d + 1) 130 43 [some (.ref 23), some (.ref 1), some (.int (nI n))] []) := by
  have cn : (nI n).toNatClampNeg = n := mn_clamp (by omega)
  have c0 : (nI 0).toNatClampNeg = 0 := mn_clamp (by omega)
  refine (mj_q_aload_n mw_m130 d130_20 rfl (mw_nea mw_r_1)).trans ((mj_q_iconst mw_m130 d130_21 mw_k_iconst_0).trans ((mj_q_aload_n mw_m130 d130_22 rfl (by decide)).trans ((mw_q_getr mw_m130 d130_23 mw_p7_9 mw_c_23 mw_f_23_0).trans ((mj_q_iconst mw_m130 d130_26 mw_k_iconst_0).trans ((mj_q_aload_n mw_m130 d130_27 rfl (by decide)).trans ((mw_q_geti mw_m130 d130_28 mw_p7_15 mw_c_23 mw_f_23_1).trans ?_))))))
  rw [h1]
  have hall : (List.range (nI n).toNatClampNeg).all (fun i => _root_.Jvm.fits .byte (.int (s.1 1 ((nI 0).toNatClampNeg + i)))) = true := by
    rw [cn, c0, List.all_eq_true]
    intro i hi
    obtain ⟨b, b1, b2⟩ := hb i (List.mem_range.mp hi)
    rw [Nat.zero_add, b2]
    exact sby_fits b b1
  refine (mw_q_copyb mw_m130 d130_31 mw_p7_40 mw_r_1 mw_r_24 (Nat.zero_le _) (by decide) (by decide) (by rw [mn_lt0 (by omega)]; exact id) (by rw [cn, c0]; omega) (by rw [cn, c0]; omega) hall).trans ?_
  rw [cn, c0]
  exact (mj_q_aload_n mw_m130 d130_34 rfl (by decide)).trans ((mj_q_iconst mw_m130 d130_35 mw_k_iconst_0).trans ((mw_q_puti mw_m130 d130_36 mw_p7_22 mw_c_23 mw_f_23_3 (by decide) rfl (.inl rfl)).trans ((mj_q_aload_n mw_m130 d130_39 rfl (by decide)).trans (mw_q_callv mw_m130 rfl d130_40 mw_p7_46 mw_m131 rfl rfl (Nat.le_of_ble_eq_true rfl) (Nat.le_of_ble_eq_true rfl) rfl (mw_rcv mw_c_23) rfl rfl))))
/-- the class opens a text of n bytes -/
theorem c130 {D : Nat} (hD : 7 ≤ D) (hn : n ≤ 700) (ht : ∀ j, j < n → tp j < 256 ∧ s.1 1 j = sby (tp j)) : ∃ t, mj_call X D 130 [.ref 23, .ref 1, .int (nI n)] (mw_U s) = some (.inl none, mw_U t) ∧ TC t tp n 0 ∧ mg s t (fun c => c = 23 ∨ c = 24) := by
  obtain ⟨d, rfl⟩ : ∃ d, D = d + 7 := ⟨D - 7, by omega⟩
  have hv : (if (nI 0) < (if (if (nI 700) < (nI 700) then nI 700 else nI 700) < nI n then (if (nI 700) < (nI 700) then nI 700 else nI 700) else nI n) then (if (if (nI 700) < (nI 700) then nI 700 else nI 700) < nI n then (if (nI 700) < (nI 700) then nI 700 else nI 700) else nI n) else nI 0) = nI n := by
    have e7 : (if (nI 700) < (nI 700) then nI 700 else nI 700) = nI 700 := by decide
    rw [e7, if_neg (show ¬ nI 700 < nI n by rw [mn_lt (by omega) (by omega)]; omega)]
    by_cases q : 0 < n
    · rw [if_pos (by rw [mn_lt (by omega) (by omega)]; exact q)]
    · have : n = 0 := by omega
      subst this
      rw [if_neg (by decide)]
  have hP : PC (mw_p (mw_c (mw_p s 23 1 (nI n)) 1 24 0 0 n) 23 3 (nI 0)) tp n 0 := by
    refine ⟨Nat.zero_le _, hn, ?_, mw_peq, fun j hj => ⟨(ht j hj).1, ?_⟩⟩
    · rw [mw_pnj (by decide)]
      show (if 23 = 24 ∧ (0 ≤ 1 ∧ 1 < 0 + n) then (mw_p s 23 1 (nI n)).1 1 (0 + (1 - 0)) else (mw_p s 23 1 (nI n)).1 23 1) = _
      rw [if_neg (fun z => absurd z.1 (by decide)), mw_peq]
    · rw [mw_pne (by decide)]
      show (if 24 = 24 ∧ (0 ≤ j ∧ j < 0 + n) then (mw_p s 23 1 (nI n)).1 1 (0 + (j - 0)) else (mw_p s 23 1 (nI n)).1 24 j) = _
      rw [if_pos ⟨rfl, by omega, by omega⟩, mw_pne (by decide), Nat.sub_zero, Nat.zero_add]
      exact (ht j hj).2
  obtain ⟨t, e, h1, h2⟩ := c131 (X := X) (d := d) hP
  refine ⟨t, ?_, h1, ?_⟩
  · rw [b130, b130_0 hv, b130_20 hn mw_peq (fun j hj => ⟨tp j, (ht j hj).1, by rw [mw_pne (by decide)]; exact (ht j hj).2⟩), e, mj_bk_v, b130_43 mw_r_1]
  · have m1 : mg s (mw_p s 23 1 (nI n)) (fun c => c = 23 ∨ c = 24) := mg_p mg_refl (Or.inl rfl)
    have m2 : mg (mw_p s 23 1 (nI n)) (mw_c (mw_p s 23 1 (nI n)) 1 24 0 0 n) (fun c => c = 23 ∨ c = 24) := ⟨rfl, fun c hc => by
      funext b
      exact if_neg (fun z => hc (Or.inr z.1))⟩
    exact mg_trans (mg_p (mg_trans m1 m2) (Or.inl rfl)) (mg_mono h2 (fun c hc => Or.inl hc))
end
