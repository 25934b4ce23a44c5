/-! the law's wrappers: printed by wip/whole/gen_wrap.py -/
section
variable {X : mj_X} {d y pc : Nat} {L : mj_L} {st r : List Value} {w : mj_W} {M : mj_M} {s t : mw_S}
theorem mw_q_callvh (hM : mj_meth y = some M) {ix z n k : Nat} {As rest : List Value} {Z : mj_M} (hd : decode M.2.1 pc = .ok (.invokevirtual ix, 3)) (hp : mj_pool M.2.2.2.2.2.1 ix = some (2, z, 1)) (hZ : mj_meth z = some Z) (hZh : Z.2.2.2.2.2.2.2 = []) (hn : Z.2.2.2.2.1 = n) (hlen : n ≤ st.length) (hcat : ((st.drop (n + 1)).map fun v => v.category).sum ≤ 8) (hk : st[n]? = some (.ref k)) (hr : mj_rcv w k = some Z.2.2.2.2.2.1) (hA : .ref k :: (st.take n).reverse = As) (hrest : st.drop (n + 1) = rest) : mj_exec X (d + 1) y pc L st w = (mj_call X d z As w).bind (mj_back X (d + 1) y pc L rest M) := by
  subst hn hA hrest
  refine mj_exec_call hM hd (show (if 3 = 3 then mj_invv (mj_pool M.2.2.2.2.2.1 ix) st w else none) = _ from ?_)
  rw [if_pos rfl, hp]
  simp only [mj_invv, hZ, if_pos hZh, mj_inv, if_true, hk, hr]
  rw [if_pos ⟨hlen, hcat⟩]
theorem mw_back_v {v : Value} : (some ((.inl (some v) : mj_O), w)).bind (mj_back X d y pc L r M) = mj_exec X d y (pc + 3) L (v :: r) w := rfl
theorem mw_back_x {e h : Nat} {k : Fin 4} {L2 : mj_L} (h0 : ¬ M.2.2.2.2.2.2.2 = []) (hc : mj_catch M.2.2.2.2.2.1 M.2.2.2.2.2.2.2 pc e = some h) (hd : decode M.2.1 h = .ok (.astore_n k, 1)) (hk : (k : Nat) < L.length ∧ mj_ok1 L k = true) (hL : L.set k none = L2) : (some ((.inr e : mj_O), w)).bind (mj_back X d y pc L r M) = mj_exec X d y (h + 1) L2 [] w := by
  subst hL
  show (if M.2.2.2.2.2.2.2 = [] then _ else _) = _
  rw [if_neg h0, hc]
  simp only [mj_hand, hd]
  rw [if_pos hk]
theorem mw_back_y {e h k : Nat} {L2 : mj_L} (h0 : ¬ M.2.2.2.2.2.2.2 = []) (hc : mj_catch M.2.2.2.2.2.1 M.2.2.2.2.2.2.2 pc e = some h) (hd : decode M.2.1 h = .ok (.astore k, 2)) (hk : k < L.length ∧ mj_ok1 L k = true) (hL : L.set k none = L2) : (some ((.inr e : mj_O), w)).bind (mj_back X d y pc L r M) = mj_exec X d y (h + 2) L2 [] w := by
  subst hL
  show (if M.2.2.2.2.2.2.2 = [] then _ else _) = _
  rw [if_neg h0, hc]
  simp only [mj_hand, hd]
  rw [if_pos hk]
end
section
variable {X : mj_X} {d : Nat} {s t : mw_S}
theorem d312_0 : decode method_3_code 0 = .ok (.aload_n 2, 1) := by decide +kernel
theorem d312_1 : decode method_3_code 1 = .ok (.iconst 0, 1) := by decide +kernel
theorem d312_2 : decode method_3_code 2 = .ok (.aload_n 0, 1) := by decide +kernel
theorem d312_3 : decode method_3_code 3 = .ok (.iload_n 1, 1) := by decide +kernel
theorem d312_4 : decode method_3_code 4 = .ok (.invokevirtual 7, 3) := by decide +kernel
theorem d312_7 : decode method_3_code 7 = .ok (.i2l, 1) := by decide +kernel
theorem d312_8 : decode method_3_code 8 = .ok (.lastore, 1) := by decide +kernel
theorem d312_9 : decode method_3_code 9 = .ok (.goto 6, 3) := by decide +kernel
theorem d312_12 : decode method_3_code 12 = .ok (.astore_n 3, 1) := by decide +kernel
theorem d312_13 : decode method_3_code 13 = .ok (.iconst 1, 1) := by decide +kernel
theorem d312_14 : decode method_3_code 14 = .ok (.ireturn, 1) := by decide +kernel
theorem d312_15 : decode method_3_code 15 = .ok (.iconst 0, 1) := by decide +kernel
theorem d312_16 : decode method_3_code 16 = .ok (.ireturn, 1) := by decide +kernel
theorem b312 {X : mj_X} {d : Nat} {w : mj_W} {x0 : Nat} {x1 : Int32} {x2 : Nat} : mj_call X d 312 [.ref x0, .int x1, .ref x2] w = mj_exec X d 312 0 [some (.ref x0), some (.int x1), some (.ref x2), none] [] w := mw_ent mw_m312 (Nat.le_of_ble_eq_true rfl) rfl
theorem mw_p11_7 : mj_pool 11 7 = some (2, 163, 1) := by decide +kernel
theorem b312_0 {x1 : Int32} : mj_exec X (d + 1) 312 0 [some (.ref 0), some (.int x1), some (.ref 79), none] [] (mw_U s) = (mj_call X d 163 [.ref 0, .int x1] (mw_U s)).bind (mj_back X (d + 1) 312 4 [some (.ref 0), some (.int x1), some (.ref 79), none] [.int (nI 0), .ref 79] mw_M312) := (mj_q_aload_n mw_m312 d312_0 rfl (by decide)).trans ((mj_q_iconst mw_m312 d312_1 mw_k_iconst_0).trans ((mj_q_aload_n mw_m312 d312_2 rfl (by decide)).trans ((mj_q_iload_n mw_m312 d312_3 rfl).trans (mw_q_callvh mw_m312 d312_4 mw_p11_7 mw_m163 rfl rfl (Nat.le_of_ble_eq_true rfl) (Nat.le_of_ble_eq_true rfl) rfl (mw_rcv mw_c_0) rfl rfl))))
theorem b312_7 {x1 : Int32} {v : Int32} : mj_exec X d 312 7 [some (.ref 0), some (.int x1), some (.ref 79), none] [.int v, .int (nI 0), .ref 79] (mw_U t) = some (.inl (some (.int (nI 0))), mw_U (mw_pl t 79 0 (Int32.toInt64 v))) := (mj_q_i2l mw_m312 d312_7).trans ((mw_q_last mw_m312 d312_8 mw_l_79 (by decide)).trans ((mj_q_goto mw_m312 d312_9 rfl).trans ((mj_q_iconst mw_m312 d312_15 mw_k_iconst_0).trans (mj_q_iret mw_m312 d312_16 rfl))))
theorem w312_v {x1 : Int32} {v : Int32} (e : mj_call X d 163 [.ref 0, .int x1] (mw_U s) = some (.inl (some (.int v)), mw_U t)) : mj_call X (d + 1) 312 [.ref 0, .int x1, .ref 79] (mw_U s) = some (.inl (some (.int (nI 0))), mw_U (mw_pl t 79 0 (Int32.toInt64 v))) := by
  rw [b312, b312_0, e, mw_back_v, b312_7]
theorem w312_x1 {x1 : Int32} (e : mj_call X d 163 [.ref 0, .int x1] (mw_U s) = some (.inr 1, mw_U t)) : mj_call X (d + 1) 312 [.ref 0, .int x1, .ref 79] (mw_U s) = some (.inl (some (.int (nI 1))), mw_U t) := by
  rw [b312, b312_0, e]
  exact (mw_back_x (M := mw_M312) (by decide) (h := 12) (by decide +kernel) d312_12 ⟨(Nat.le_of_ble_eq_true rfl), rfl⟩ rfl).trans ((mj_q_iconst mw_m312 d312_13 mw_k_iconst_1).trans (mj_q_iret mw_m312 d312_14 rfl))
theorem d313_0 : decode method_4_code 0 = .ok (.aload_n 2, 1) := by decide +kernel
theorem d313_1 : decode method_4_code 1 = .ok (.iconst 0, 1) := by decide +kernel
theorem d313_2 : decode method_4_code 2 = .ok (.aload_n 0, 1) := by decide +kernel
theorem d313_3 : decode method_4_code 3 = .ok (.iload_n 1, 1) := by decide +kernel
theorem d313_4 : decode method_4_code 4 = .ok (.invokevirtual 15, 3) := by decide +kernel
theorem d313_7 : decode method_4_code 7 = .ok (.i2l, 1) := by decide +kernel
theorem d313_8 : decode method_4_code 8 = .ok (.lastore, 1) := by decide +kernel
theorem d313_9 : decode method_4_code 9 = .ok (.goto 6, 3) := by decide +kernel
theorem d313_12 : decode method_4_code 12 = .ok (.astore_n 3, 1) := by decide +kernel
theorem d313_13 : decode method_4_code 13 = .ok (.iconst 1, 1) := by decide +kernel
theorem d313_14 : decode method_4_code 14 = .ok (.ireturn, 1) := by decide +kernel
theorem d313_15 : decode method_4_code 15 = .ok (.iconst 0, 1) := by decide +kernel
theorem d313_16 : decode method_4_code 16 = .ok (.ireturn, 1) := by decide +kernel
theorem b313 {X : mj_X} {d : Nat} {w : mj_W} {x0 : Nat} {x1 : Int32} {x2 : Nat} : mj_call X d 313 [.ref x0, .int x1, .ref x2] w = mj_exec X d 313 0 [some (.ref x0), some (.int x1), some (.ref x2), none] [] w := mw_ent mw_m313 (Nat.le_of_ble_eq_true rfl) rfl
theorem mw_p11_15 : mj_pool 11 15 = some (2, 164, 1) := by decide +kernel
theorem b313_0 {x1 : Int32} : mj_exec X (d + 1) 313 0 [some (.ref 0), some (.int x1), some (.ref 79), none] [] (mw_U s) = (mj_call X d 164 [.ref 0, .int x1] (mw_U s)).bind (mj_back X (d + 1) 313 4 [some (.ref 0), some (.int x1), some (.ref 79), none] [.int (nI 0), .ref 79] mw_M313) := (mj_q_aload_n mw_m313 d313_0 rfl (by decide)).trans ((mj_q_iconst mw_m313 d313_1 mw_k_iconst_0).trans ((mj_q_aload_n mw_m313 d313_2 rfl (by decide)).trans ((mj_q_iload_n mw_m313 d313_3 rfl).trans (mw_q_callvh mw_m313 d313_4 mw_p11_15 mw_m164 rfl rfl (Nat.le_of_ble_eq_true rfl) (Nat.le_of_ble_eq_true rfl) rfl (mw_rcv mw_c_0) rfl rfl))))
theorem b313_7 {x1 : Int32} {v : Int32} : mj_exec X d 313 7 [some (.ref 0), some (.int x1), some (.ref 79), none] [.int v, .int (nI 0), .ref 79] (mw_U t) = some (.inl (some (.int (nI 0))), mw_U (mw_pl t 79 0 (Int32.toInt64 v))) := (mj_q_i2l mw_m313 d313_7).trans ((mw_q_last mw_m313 d313_8 mw_l_79 (by decide)).trans ((mj_q_goto mw_m313 d313_9 rfl).trans ((mj_q_iconst mw_m313 d313_15 mw_k_iconst_0).trans (mj_q_iret mw_m313 d313_16 rfl))))
theorem w313_v {x1 : Int32} {v : Int32} (e : mj_call X d 164 [.ref 0, .int x1] (mw_U s) = some (.inl (some (.int v)), mw_U t)) : mj_call X (d + 1) 313 [.ref 0, .int x1, .ref 79] (mw_U s) = some (.inl (some (.int (nI 0))), mw_U (mw_pl t 79 0 (Int32.toInt64 v))) := by
  rw [b313, b313_0, e, mw_back_v, b313_7]
theorem w313_x0 {x1 : Int32} (e : mj_call X d 164 [.ref 0, .int x1] (mw_U s) = some (.inr 0, mw_U t)) : mj_call X (d + 1) 313 [.ref 0, .int x1, .ref 79] (mw_U s) = some (.inl (some (.int (nI 1))), mw_U t) := by
  rw [b313, b313_0, e]
  exact (mw_back_x (M := mw_M313) (by decide) (h := 12) (by decide +kernel) d313_12 ⟨(Nat.le_of_ble_eq_true rfl), rfl⟩ rfl).trans ((mj_q_iconst mw_m313 d313_13 mw_k_iconst_1).trans (mj_q_iret mw_m313 d313_14 rfl))
theorem d314_0 : decode method_5_code 0 = .ok (.aload_n 3, 1) := by decide +kernel
theorem d314_1 : decode method_5_code 1 = .ok (.iconst 0, 1) := by decide +kernel
theorem d314_2 : decode method_5_code 2 = .ok (.aload_n 0, 1) := by decide +kernel
theorem d314_3 : decode method_5_code 3 = .ok (.iload_n 1, 1) := by decide +kernel
theorem d314_4 : decode method_5_code 4 = .ok (.iload_n 2, 1) := by decide +kernel
theorem d314_5 : decode method_5_code 5 = .ok (.invokevirtual 20, 3) := by decide +kernel
theorem d314_8 : decode method_5_code 8 = .ok (.i2l, 1) := by decide +kernel
theorem d314_9 : decode method_5_code 9 = .ok (.lastore, 1) := by decide +kernel
theorem d314_10 : decode method_5_code 10 = .ok (.goto 7, 3) := by decide +kernel
theorem d314_13 : decode method_5_code 13 = .ok (.astore 4, 2) := by decide +kernel
theorem d314_15 : decode method_5_code 15 = .ok (.iconst 1, 1) := by decide +kernel
theorem d314_16 : decode method_5_code 16 = .ok (.ireturn, 1) := by decide +kernel
theorem d314_17 : decode method_5_code 17 = .ok (.iconst 0, 1) := by decide +kernel
theorem d314_18 : decode method_5_code 18 = .ok (.ireturn, 1) := by decide +kernel
theorem b314 {X : mj_X} {d : Nat} {w : mj_W} {x0 : Nat} {x1 : Int32} {x2 : Int32} {x3 : Nat} : mj_call X d 314 [.ref x0, .int x1, .int x2, .ref x3] w = mj_exec X d 314 0 [some (.ref x0), some (.int x1), some (.int x2), some (.ref x3), none] [] w := mw_ent mw_m314 (Nat.le_of_ble_eq_true rfl) rfl
theorem mw_p11_20 : mj_pool 11 20 = some (2, 165, 1) := by decide +kernel
theorem b314_0 {x1 x2 : Int32} : mj_exec X (d + 1) 314 0 [some (.ref 0), some (.int x1), some (.int x2), some (.ref 79), none] [] (mw_U s) = (mj_call X d 165 [.ref 0, .int x1, .int x2] (mw_U s)).bind (mj_back X (d + 1) 314 5 [some (.ref 0), some (.int x1), some (.int x2), some (.ref 79), none] [.int (nI 0), .ref 79] mw_M314) := (mj_q_aload_n mw_m314 d314_0 rfl (by decide)).trans ((mj_q_iconst mw_m314 d314_1 mw_k_iconst_0).trans ((mj_q_aload_n mw_m314 d314_2 rfl (by decide)).trans ((mj_q_iload_n mw_m314 d314_3 rfl).trans ((mj_q_iload_n mw_m314 d314_4 rfl).trans (mw_q_callvh mw_m314 d314_5 mw_p11_20 mw_m165 rfl rfl (Nat.le_of_ble_eq_true rfl) (Nat.le_of_ble_eq_true rfl) rfl (mw_rcv mw_c_0) rfl rfl)))))
theorem b314_8 {x1 x2 : Int32} {v : Int32} : mj_exec X d 314 8 [some (.ref 0), some (.int x1), some (.int x2), some (.ref 79), none] [.int v, .int (nI 0), .ref 79] (mw_U t) = some (.inl (some (.int (nI 0))), mw_U (mw_pl t 79 0 (Int32.toInt64 v))) := (mj_q_i2l mw_m314 d314_8).trans ((mw_q_last mw_m314 d314_9 mw_l_79 (by decide)).trans ((mj_q_goto mw_m314 d314_10 rfl).trans ((mj_q_iconst mw_m314 d314_17 mw_k_iconst_0).trans (mj_q_iret mw_m314 d314_18 rfl))))
theorem w314_v {x1 x2 : Int32} {v : Int32} (e : mj_call X d 165 [.ref 0, .int x1, .int x2] (mw_U s) = some (.inl (some (.int v)), mw_U t)) : mj_call X (d + 1) 314 [.ref 0, .int x1, .int x2, .ref 79] (mw_U s) = some (.inl (some (.int (nI 0))), mw_U (mw_pl t 79 0 (Int32.toInt64 v))) := by
  rw [b314, b314_0, e, mw_back_v, b314_8]
theorem w314_x0 {x1 x2 : Int32} (e : mj_call X d 165 [.ref 0, .int x1, .int x2] (mw_U s) = some (.inr 0, mw_U t)) : mj_call X (d + 1) 314 [.ref 0, .int x1, .int x2, .ref 79] (mw_U s) = some (.inl (some (.int (nI 1))), mw_U t) := by
  rw [b314, b314_0, e]
  exact (mw_back_y (M := mw_M314) (by decide) (h := 13) (by decide +kernel) d314_13 ⟨(Nat.le_of_ble_eq_true rfl), rfl⟩ rfl).trans ((mj_q_iconst mw_m314 d314_15 mw_k_iconst_1).trans (mj_q_iret mw_m314 d314_16 rfl))
theorem d315_0 : decode method_6_code 0 = .ok (.aload 4, 2) := by decide +kernel
theorem d315_2 : decode method_6_code 2 = .ok (.iconst 0, 1) := by decide +kernel
theorem d315_3 : decode method_6_code 3 = .ok (.aload_n 0, 1) := by decide +kernel
theorem d315_4 : decode method_6_code 4 = .ok (.iload_n 1, 1) := by decide +kernel
theorem d315_5 : decode method_6_code 5 = .ok (.iload_n 2, 1) := by decide +kernel
theorem d315_6 : decode method_6_code 6 = .ok (.iload_n 3, 1) := by decide +kernel
theorem d315_7 : decode method_6_code 7 = .ok (.invokevirtual 24, 3) := by decide +kernel
theorem d315_10 : decode method_6_code 10 = .ok (.i2l, 1) := by decide +kernel
theorem d315_11 : decode method_6_code 11 = .ok (.lastore, 1) := by decide +kernel
theorem d315_12 : decode method_6_code 12 = .ok (.goto 7, 3) := by decide +kernel
theorem d315_15 : decode method_6_code 15 = .ok (.astore 5, 2) := by decide +kernel
theorem d315_17 : decode method_6_code 17 = .ok (.iconst 1, 1) := by decide +kernel
theorem d315_18 : decode method_6_code 18 = .ok (.ireturn, 1) := by decide +kernel
theorem d315_19 : decode method_6_code 19 = .ok (.iconst 0, 1) := by decide +kernel
theorem d315_20 : decode method_6_code 20 = .ok (.ireturn, 1) := by decide +kernel
theorem b315 {X : mj_X} {d : Nat} {w : mj_W} {x0 : Nat} {x1 : Int32} {x2 : Int32} {x3 : Int32} {x4 : Nat} : mj_call X d 315 [.ref x0, .int x1, .int x2, .int x3, .ref x4] w = mj_exec X d 315 0 [some (.ref x0), some (.int x1), some (.int x2), some (.int x3), some (.ref x4), none] [] w := mw_ent mw_m315 (Nat.le_of_ble_eq_true rfl) rfl
theorem mw_p11_24 : mj_pool 11 24 = some (2, 167, 1) := by decide +kernel
theorem b315_0 {x1 x2 x3 : Int32} : mj_exec X (d + 1) 315 0 [some (.ref 0), some (.int x1), some (.int x2), some (.int x3), some (.ref 79), none] [] (mw_U s) = (mj_call X d 167 [.ref 0, .int x1, .int x2, .int x3] (mw_U s)).bind (mj_back X (d + 1) 315 7 [some (.ref 0), some (.int x1), some (.int x2), some (.int x3), some (.ref 79), none] [.int (nI 0), .ref 79] mw_M315) := (mj_q_aload mw_m315 d315_0 rfl (by decide)).trans ((mj_q_iconst mw_m315 d315_2 mw_k_iconst_0).trans ((mj_q_aload_n mw_m315 d315_3 rfl (by decide)).trans ((mj_q_iload_n mw_m315 d315_4 rfl).trans ((mj_q_iload_n mw_m315 d315_5 rfl).trans ((mj_q_iload_n mw_m315 d315_6 rfl).trans (mw_q_callvh mw_m315 d315_7 mw_p11_24 mw_m167 rfl rfl (Nat.le_of_ble_eq_true rfl) (Nat.le_of_ble_eq_true rfl) rfl (mw_rcv mw_c_0) rfl rfl))))))
theorem b315_10 {x1 x2 x3 : Int32} {v : Int32} : mj_exec X d 315 10 [some (.ref 0), some (.int x1), some (.int x2), some (.int x3), some (.ref 79), none] [.int v, .int (nI 0), .ref 79] (mw_U t) = some (.inl (some (.int (nI 0))), mw_U (mw_pl t 79 0 (Int32.toInt64 v))) := (mj_q_i2l mw_m315 d315_10).trans ((mw_q_last mw_m315 d315_11 mw_l_79 (by decide)).trans ((mj_q_goto mw_m315 d315_12 rfl).trans ((mj_q_iconst mw_m315 d315_19 mw_k_iconst_0).trans (mj_q_iret mw_m315 d315_20 rfl))))
theorem w315_v {x1 x2 x3 : Int32} {v : Int32} (e : mj_call X d 167 [.ref 0, .int x1, .int x2, .int x3] (mw_U s) = some (.inl (some (.int v)), mw_U t)) : mj_call X (d + 1) 315 [.ref 0, .int x1, .int x2, .int x3, .ref 79] (mw_U s) = some (.inl (some (.int (nI 0))), mw_U (mw_pl t 79 0 (Int32.toInt64 v))) := by
  rw [b315, b315_0, e, mw_back_v, b315_10]
theorem w315_x0 {x1 x2 x3 : Int32} (e : mj_call X d 167 [.ref 0, .int x1, .int x2, .int x3] (mw_U s) = some (.inr 0, mw_U t)) : mj_call X (d + 1) 315 [.ref 0, .int x1, .int x2, .int x3, .ref 79] (mw_U s) = some (.inl (some (.int (nI 1))), mw_U t) := by
  rw [b315, b315_0, e]
  exact (mw_back_y (M := mw_M315) (by decide) (h := 15) (by decide +kernel) d315_15 ⟨(Nat.le_of_ble_eq_true rfl), rfl⟩ rfl).trans ((mj_q_iconst mw_m315 d315_17 mw_k_iconst_1).trans (mj_q_iret mw_m315 d315_18 rfl))
theorem d316_0 : decode method_7_code 0 = .ok (.aload_n 2, 1) := by decide +kernel
theorem d316_1 : decode method_7_code 1 = .ok (.iconst 0, 1) := by decide +kernel
theorem d316_2 : decode method_7_code 2 = .ok (.aload_n 0, 1) := by decide +kernel
theorem d316_3 : decode method_7_code 3 = .ok (.iload_n 1, 1) := by decide +kernel
theorem d316_4 : decode method_7_code 4 = .ok (.invokevirtual 28, 3) := by decide +kernel
theorem d316_7 : decode method_7_code 7 = .ok (.i2l, 1) := by decide +kernel
theorem d316_8 : decode method_7_code 8 = .ok (.lastore, 1) := by decide +kernel
theorem d316_9 : decode method_7_code 9 = .ok (.goto 6, 3) := by decide +kernel
theorem d316_12 : decode method_7_code 12 = .ok (.astore_n 3, 1) := by decide +kernel
theorem d316_13 : decode method_7_code 13 = .ok (.iconst 1, 1) := by decide +kernel
theorem d316_14 : decode method_7_code 14 = .ok (.ireturn, 1) := by decide +kernel
theorem d316_15 : decode method_7_code 15 = .ok (.iconst 0, 1) := by decide +kernel
theorem d316_16 : decode method_7_code 16 = .ok (.ireturn, 1) := by decide +kernel
theorem b316 {X : mj_X} {d : Nat} {w : mj_W} {x0 : Nat} {x1 : Int32} {x2 : Nat} : mj_call X d 316 [.ref x0, .int x1, .ref x2] w = mj_exec X d 316 0 [some (.ref x0), some (.int x1), some (.ref x2), none] [] w := mw_ent mw_m316 (Nat.le_of_ble_eq_true rfl) rfl
theorem mw_p11_28 : mj_pool 11 28 = some (2, 170, 1) := by decide +kernel
theorem b316_0 {x1 : Int32} : mj_exec X (d + 1) 316 0 [some (.ref 0), some (.int x1), some (.ref 79), none] [] (mw_U s) = (mj_call X d 170 [.ref 0, .int x1] (mw_U s)).bind (mj_back X (d + 1) 316 4 [some (.ref 0), some (.int x1), some (.ref 79), none] [.int (nI 0), .ref 79] mw_M316) := (mj_q_aload_n mw_m316 d316_0 rfl (by decide)).trans ((mj_q_iconst mw_m316 d316_1 mw_k_iconst_0).trans ((mj_q_aload_n mw_m316 d316_2 rfl (by decide)).trans ((mj_q_iload_n mw_m316 d316_3 rfl).trans (mw_q_callvh mw_m316 d316_4 mw_p11_28 mw_m170 rfl rfl (Nat.le_of_ble_eq_true rfl) (Nat.le_of_ble_eq_true rfl) rfl (mw_rcv mw_c_0) rfl rfl))))
theorem b316_7 {x1 : Int32} {v : Int32} : mj_exec X d 316 7 [some (.ref 0), some (.int x1), some (.ref 79), none] [.int v, .int (nI 0), .ref 79] (mw_U t) = some (.inl (some (.int (nI 0))), mw_U (mw_pl t 79 0 (Int32.toInt64 v))) := (mj_q_i2l mw_m316 d316_7).trans ((mw_q_last mw_m316 d316_8 mw_l_79 (by decide)).trans ((mj_q_goto mw_m316 d316_9 rfl).trans ((mj_q_iconst mw_m316 d316_15 mw_k_iconst_0).trans (mj_q_iret mw_m316 d316_16 rfl))))
theorem w316_v {x1 : Int32} {v : Int32} (e : mj_call X d 170 [.ref 0, .int x1] (mw_U s) = some (.inl (some (.int v)), mw_U t)) : mj_call X (d + 1) 316 [.ref 0, .int x1, .ref 79] (mw_U s) = some (.inl (some (.int (nI 0))), mw_U (mw_pl t 79 0 (Int32.toInt64 v))) := by
  rw [b316, b316_0, e, mw_back_v, b316_7]
theorem w316_x0 {x1 : Int32} (e : mj_call X d 170 [.ref 0, .int x1] (mw_U s) = some (.inr 0, mw_U t)) : mj_call X (d + 1) 316 [.ref 0, .int x1, .ref 79] (mw_U s) = some (.inl (some (.int (nI 1))), mw_U t) := by
  rw [b316, b316_0, e]
  exact (mw_back_x (M := mw_M316) (by decide) (h := 12) (by decide +kernel) d316_12 ⟨(Nat.le_of_ble_eq_true rfl), rfl⟩ rfl).trans ((mj_q_iconst mw_m316 d316_13 mw_k_iconst_1).trans (mj_q_iret mw_m316 d316_14 rfl))
theorem d317_0 : decode method_8_code 0 = .ok (.aload_n 3, 1) := by decide +kernel
theorem d317_1 : decode method_8_code 1 = .ok (.iconst 0, 1) := by decide +kernel
theorem d317_2 : decode method_8_code 2 = .ok (.aload_n 0, 1) := by decide +kernel
theorem d317_3 : decode method_8_code 3 = .ok (.iload_n 1, 1) := by decide +kernel
theorem d317_4 : decode method_8_code 4 = .ok (.iload_n 2, 1) := by decide +kernel
theorem d317_5 : decode method_8_code 5 = .ok (.invokevirtual 31, 3) := by decide +kernel
theorem d317_8 : decode method_8_code 8 = .ok (.ifCond .eq 7, 3) := by decide +kernel
theorem d317_11 : decode method_8_code 11 = .ok (.lconst 1, 1) := by decide +kernel
theorem d317_12 : decode method_8_code 12 = .ok (.goto 4, 3) := by decide +kernel
theorem d317_15 : decode method_8_code 15 = .ok (.lconst 0, 1) := by decide +kernel
theorem d317_16 : decode method_8_code 16 = .ok (.lastore, 1) := by decide +kernel
theorem d317_17 : decode method_8_code 17 = .ok (.goto 7, 3) := by decide +kernel
theorem d317_20 : decode method_8_code 20 = .ok (.astore 4, 2) := by decide +kernel
theorem d317_22 : decode method_8_code 22 = .ok (.iconst 1, 1) := by decide +kernel
theorem d317_23 : decode method_8_code 23 = .ok (.ireturn, 1) := by decide +kernel
theorem d317_24 : decode method_8_code 24 = .ok (.iconst 0, 1) := by decide +kernel
theorem d317_25 : decode method_8_code 25 = .ok (.ireturn, 1) := by decide +kernel
theorem b317 {X : mj_X} {d : Nat} {w : mj_W} {x0 : Nat} {x1 : Int32} {x2 : Int32} {x3 : Nat} : mj_call X d 317 [.ref x0, .int x1, .int x2, .ref x3] w = mj_exec X d 317 0 [some (.ref x0), some (.int x1), some (.int x2), some (.ref x3), none] [] w := mw_ent mw_m317 (Nat.le_of_ble_eq_true rfl) rfl
theorem mw_p11_31 : mj_pool 11 31 = some (2, 171, 1) := by decide +kernel
theorem b317_0 {x1 x2 : Int32} : mj_exec X (d + 1) 317 0 [some (.ref 0), some (.int x1), some (.int x2), some (.ref 79), none] [] (mw_U s) = (mj_call X d 171 [.ref 0, .int x1, .int x2] (mw_U s)).bind (mj_back X (d + 1) 317 5 [some (.ref 0), some (.int x1), some (.int x2), some (.ref 79), none] [.int (nI 0), .ref 79] mw_M317) := (mj_q_aload_n mw_m317 d317_0 rfl (by decide)).trans ((mj_q_iconst mw_m317 d317_1 mw_k_iconst_0).trans ((mj_q_aload_n mw_m317 d317_2 rfl (by decide)).trans ((mj_q_iload_n mw_m317 d317_3 rfl).trans ((mj_q_iload_n mw_m317 d317_4 rfl).trans (mw_q_callvh mw_m317 d317_5 mw_p11_31 mw_m171 rfl rfl (Nat.le_of_ble_eq_true rfl) (Nat.le_of_ble_eq_true rfl) rfl (mw_rcv mw_c_0) rfl rfl)))))
theorem b317_11 {x1 x2 : Int32} : mj_exec X d 317 11 [some (.ref 0), some (.int x1), some (.int x2), some (.ref 79), none] [.int (nI 0), .ref 79] (mw_U t) = some (.inl (some (.int (nI 0))), mw_U (mw_pl t 79 0 (Int64.ofNat 1))) := (mj_q_lconst mw_m317 d317_11 rfl).trans ((mj_q_goto mw_m317 d317_12 rfl).trans ((mw_q_last mw_m317 d317_16 mw_l_79 (by decide)).trans ((mj_q_goto mw_m317 d317_17 rfl).trans ((mj_q_iconst mw_m317 d317_24 mw_k_iconst_0).trans (mj_q_iret mw_m317 d317_25 rfl)))))
theorem b317_15 {x1 x2 : Int32} : mj_exec X d 317 15 [some (.ref 0), some (.int x1), some (.int x2), some (.ref 79), none] [.int (nI 0), .ref 79] (mw_U t) = some (.inl (some (.int (nI 0))), mw_U (mw_pl t 79 0 (Int64.ofNat 0))) := (mj_q_lconst mw_m317 d317_15 rfl).trans ((mw_q_last mw_m317 d317_16 mw_l_79 (by decide)).trans ((mj_q_goto mw_m317 d317_17 rfl).trans ((mj_q_iconst mw_m317 d317_24 mw_k_iconst_0).trans (mj_q_iret mw_m317 d317_25 rfl))))
theorem b317_8 {x1 x2 : Int32} {v : Int32} : mj_exec X d 317 8 [some (.ref 0), some (.int x1), some (.int x2), some (.ref 79), none] [.int v, .int (nI 0), .ref 79] (mw_U t) = some (.inl (some (.int (nI 0))), mw_U (mw_pl t 79 0 (if v = 0 then Int64.ofNat 0 else Int64.ofNat 1))) := by
  refine (mj_q_if_eq mw_m317 d317_8 rfl).trans ?_
  by_cases h : v = 0
  · rw [if_pos h, if_pos h, b317_15]
  · rw [if_neg h, if_neg h, b317_11]
theorem w317_v {x1 x2 : Int32} {v : Int32} (e : mj_call X d 171 [.ref 0, .int x1, .int x2] (mw_U s) = some (.inl (some (.int v)), mw_U t)) : mj_call X (d + 1) 317 [.ref 0, .int x1, .int x2, .ref 79] (mw_U s) = some (.inl (some (.int (nI 0))), mw_U (mw_pl t 79 0 (if v = 0 then Int64.ofNat 0 else Int64.ofNat 1))) := by
  rw [b317, b317_0, e, mw_back_v, b317_8]
theorem w317_x0 {x1 x2 : Int32} (e : mj_call X d 171 [.ref 0, .int x1, .int x2] (mw_U s) = some (.inr 0, mw_U t)) : mj_call X (d + 1) 317 [.ref 0, .int x1, .int x2, .ref 79] (mw_U s) = some (.inl (some (.int (nI 1))), mw_U t) := by
  rw [b317, b317_0, e]
  exact (mw_back_y (M := mw_M317) (by decide) (h := 20) (by decide +kernel) d317_20 ⟨(Nat.le_of_ble_eq_true rfl), rfl⟩ rfl).trans ((mj_q_iconst mw_m317 d317_22 mw_k_iconst_1).trans (mj_q_iret mw_m317 d317_23 rfl))
theorem d318_0 : decode method_9_code 0 = .ok (.aload_n 3, 1) := by decide +kernel
theorem d318_1 : decode method_9_code 1 = .ok (.iconst 0, 1) := by decide +kernel
theorem d318_2 : decode method_9_code 2 = .ok (.aload_n 0, 1) := by decide +kernel
theorem d318_3 : decode method_9_code 3 = .ok (.iload_n 1, 1) := by decide +kernel
theorem d318_4 : decode method_9_code 4 = .ok (.iload_n 2, 1) := by decide +kernel
theorem d318_5 : decode method_9_code 5 = .ok (.invokevirtual 35, 3) := by decide +kernel
theorem d318_8 : decode method_9_code 8 = .ok (.i2l, 1) := by decide +kernel
theorem d318_9 : decode method_9_code 9 = .ok (.lastore, 1) := by decide +kernel
theorem d318_10 : decode method_9_code 10 = .ok (.goto 7, 3) := by decide +kernel
theorem d318_13 : decode method_9_code 13 = .ok (.astore 4, 2) := by decide +kernel
theorem d318_15 : decode method_9_code 15 = .ok (.iconst 1, 1) := by decide +kernel
theorem d318_16 : decode method_9_code 16 = .ok (.ireturn, 1) := by decide +kernel
theorem d318_17 : decode method_9_code 17 = .ok (.iconst 0, 1) := by decide +kernel
theorem d318_18 : decode method_9_code 18 = .ok (.ireturn, 1) := by decide +kernel
theorem b318 {X : mj_X} {d : Nat} {w : mj_W} {x0 : Nat} {x1 : Int32} {x2 : Int32} {x3 : Nat} : mj_call X d 318 [.ref x0, .int x1, .int x2, .ref x3] w = mj_exec X d 318 0 [some (.ref x0), some (.int x1), some (.int x2), some (.ref x3), none] [] w := mw_ent mw_m318 (Nat.le_of_ble_eq_true rfl) rfl
theorem mw_p11_35 : mj_pool 11 35 = some (2, 172, 1) := by decide +kernel
theorem b318_0 {x1 x2 : Int32} : mj_exec X (d + 1) 318 0 [some (.ref 0), some (.int x1), some (.int x2), some (.ref 79), none] [] (mw_U s) = (mj_call X d 172 [.ref 0, .int x1, .int x2] (mw_U s)).bind (mj_back X (d + 1) 318 5 [some (.ref 0), some (.int x1), some (.int x2), some (.ref 79), none] [.int (nI 0), .ref 79] mw_M318) := (mj_q_aload_n mw_m318 d318_0 rfl (by decide)).trans ((mj_q_iconst mw_m318 d318_1 mw_k_iconst_0).trans ((mj_q_aload_n mw_m318 d318_2 rfl (by decide)).trans ((mj_q_iload_n mw_m318 d318_3 rfl).trans ((mj_q_iload_n mw_m318 d318_4 rfl).trans (mw_q_callvh mw_m318 d318_5 mw_p11_35 mw_m172 rfl rfl (Nat.le_of_ble_eq_true rfl) (Nat.le_of_ble_eq_true rfl) rfl (mw_rcv mw_c_0) rfl rfl)))))
theorem b318_8 {x1 x2 : Int32} {v : Int32} : mj_exec X d 318 8 [some (.ref 0), some (.int x1), some (.int x2), some (.ref 79), none] [.int v, .int (nI 0), .ref 79] (mw_U t) = some (.inl (some (.int (nI 0))), mw_U (mw_pl t 79 0 (Int32.toInt64 v))) := (mj_q_i2l mw_m318 d318_8).trans ((mw_q_last mw_m318 d318_9 mw_l_79 (by decide)).trans ((mj_q_goto mw_m318 d318_10 rfl).trans ((mj_q_iconst mw_m318 d318_17 mw_k_iconst_0).trans (mj_q_iret mw_m318 d318_18 rfl))))
theorem w318_v {x1 x2 : Int32} {v : Int32} (e : mj_call X d 172 [.ref 0, .int x1, .int x2] (mw_U s) = some (.inl (some (.int v)), mw_U t)) : mj_call X (d + 1) 318 [.ref 0, .int x1, .int x2, .ref 79] (mw_U s) = some (.inl (some (.int (nI 0))), mw_U (mw_pl t 79 0 (Int32.toInt64 v))) := by
  rw [b318, b318_0, e, mw_back_v, b318_8]
theorem w318_x0 {x1 x2 : Int32} (e : mj_call X d 172 [.ref 0, .int x1, .int x2] (mw_U s) = some (.inr 0, mw_U t)) : mj_call X (d + 1) 318 [.ref 0, .int x1, .int x2, .ref 79] (mw_U s) = some (.inl (some (.int (nI 1))), mw_U t) := by
  rw [b318, b318_0, e]
  exact (mw_back_y (M := mw_M318) (by decide) (h := 13) (by decide +kernel) d318_13 ⟨(Nat.le_of_ble_eq_true rfl), rfl⟩ rfl).trans ((mj_q_iconst mw_m318 d318_15 mw_k_iconst_1).trans (mj_q_iret mw_m318 d318_16 rfl))
theorem d319_0 : decode method_10_code 0 = .ok (.aload 5, 2) := by decide +kernel
theorem d319_2 : decode method_10_code 2 = .ok (.iconst 0, 1) := by decide +kernel
theorem d319_3 : decode method_10_code 3 = .ok (.aload_n 0, 1) := by decide +kernel
theorem d319_4 : decode method_10_code 4 = .ok (.iload_n 1, 1) := by decide +kernel
theorem d319_5 : decode method_10_code 5 = .ok (.iload_n 2, 1) := by decide +kernel
theorem d319_6 : decode method_10_code 6 = .ok (.iload_n 3, 1) := by decide +kernel
theorem d319_7 : decode method_10_code 7 = .ok (.iload 4, 2) := by decide +kernel
theorem d319_9 : decode method_10_code 9 = .ok (.invokevirtual 38, 3) := by decide +kernel
theorem d319_12 : decode method_10_code 12 = .ok (.i2l, 1) := by decide +kernel
theorem d319_13 : decode method_10_code 13 = .ok (.lastore, 1) := by decide +kernel
theorem d319_14 : decode method_10_code 14 = .ok (.goto 7, 3) := by decide +kernel
theorem d319_17 : decode method_10_code 17 = .ok (.astore 6, 2) := by decide +kernel
theorem d319_19 : decode method_10_code 19 = .ok (.iconst 1, 1) := by decide +kernel
theorem d319_20 : decode method_10_code 20 = .ok (.ireturn, 1) := by decide +kernel
theorem d319_21 : decode method_10_code 21 = .ok (.iconst 0, 1) := by decide +kernel
theorem d319_22 : decode method_10_code 22 = .ok (.ireturn, 1) := by decide +kernel
theorem b319 {X : mj_X} {d : Nat} {w : mj_W} {x0 : Nat} {x1 : Int32} {x2 : Int32} {x3 : Int32} {x4 : Int32} {x5 : Nat} : mj_call X d 319 [.ref x0, .int x1, .int x2, .int x3, .int x4, .ref x5] w = mj_exec X d 319 0 [some (.ref x0), some (.int x1), some (.int x2), some (.int x3), some (.int x4), some (.ref x5), none] [] w := mw_ent mw_m319 (Nat.le_of_ble_eq_true rfl) rfl
theorem mw_p11_38 : mj_pool 11 38 = some (2, 173, 1) := by decide +kernel
theorem b319_0 {x1 x2 x3 x4 : Int32} : mj_exec X (d + 1) 319 0 [some (.ref 0), some (.int x1), some (.int x2), some (.int x3), some (.int x4), some (.ref 79), none] [] (mw_U s) = (mj_call X d 173 [.ref 0, .int x1, .int x2, .int x3, .int x4] (mw_U s)).bind (mj_back X (d + 1) 319 9 [some (.ref 0), some (.int x1), some (.int x2), some (.int x3), some (.int x4), some (.ref 79), none] [.int (nI 0), .ref 79] mw_M319) := (mj_q_aload mw_m319 d319_0 rfl (by decide)).trans ((mj_q_iconst mw_m319 d319_2 mw_k_iconst_0).trans ((mj_q_aload_n mw_m319 d319_3 rfl (by decide)).trans ((mj_q_iload_n mw_m319 d319_4 rfl).trans ((mj_q_iload_n mw_m319 d319_5 rfl).trans ((mj_q_iload_n mw_m319 d319_6 rfl).trans ((mj_q_iload mw_m319 d319_7 rfl).trans (mw_q_callvh mw_m319 d319_9 mw_p11_38 mw_m173 rfl rfl (Nat.le_of_ble_eq_true rfl) (Nat.le_of_ble_eq_true rfl) rfl (mw_rcv mw_c_0) rfl rfl)))))))
theorem b319_12 {x1 x2 x3 x4 : Int32} {v : Int32} : mj_exec X d 319 12 [some (.ref 0), some (.int x1), some (.int x2), some (.int x3), some (.int x4), some (.ref 79), none] [.int v, .int (nI 0), .ref 79] (mw_U t) = some (.inl (some (.int (nI 0))), mw_U (mw_pl t 79 0 (Int32.toInt64 v))) := (mj_q_i2l mw_m319 d319_12).trans ((mw_q_last mw_m319 d319_13 mw_l_79 (by decide)).trans ((mj_q_goto mw_m319 d319_14 rfl).trans ((mj_q_iconst mw_m319 d319_21 mw_k_iconst_0).trans (mj_q_iret mw_m319 d319_22 rfl))))
theorem w319_v {x1 x2 x3 x4 : Int32} {v : Int32} (e : mj_call X d 173 [.ref 0, .int x1, .int x2, .int x3, .int x4] (mw_U s) = some (.inl (some (.int v)), mw_U t)) : mj_call X (d + 1) 319 [.ref 0, .int x1, .int x2, .int x3, .int x4, .ref 79] (mw_U s) = some (.inl (some (.int (nI 0))), mw_U (mw_pl t 79 0 (Int32.toInt64 v))) := by
  rw [b319, b319_0, e, mw_back_v, b319_12]
theorem w319_x0 {x1 x2 x3 x4 : Int32} (e : mj_call X d 173 [.ref 0, .int x1, .int x2, .int x3, .int x4] (mw_U s) = some (.inr 0, mw_U t)) : mj_call X (d + 1) 319 [.ref 0, .int x1, .int x2, .int x3, .int x4, .ref 79] (mw_U s) = some (.inl (some (.int (nI 1))), mw_U t) := by
  rw [b319, b319_0, e]
  exact (mw_back_y (M := mw_M319) (by decide) (h := 17) (by decide +kernel) d319_17 ⟨(Nat.le_of_ble_eq_true rfl), rfl⟩ rfl).trans ((mj_q_iconst mw_m319 d319_19 mw_k_iconst_1).trans (mj_q_iret mw_m319 d319_20 rfl))
theorem d320_0 : decode method_11_code 0 = .ok (.aload 5, 2) := by decide +kernel
theorem d320_2 : decode method_11_code 2 = .ok (.iconst 0, 1) := by decide +kernel
theorem d320_3 : decode method_11_code 3 = .ok (.aload_n 0, 1) := by decide +kernel
theorem d320_4 : decode method_11_code 4 = .ok (.iload_n 1, 1) := by decide +kernel
theorem d320_5 : decode method_11_code 5 = .ok (.iload_n 2, 1) := by decide +kernel
theorem d320_6 : decode method_11_code 6 = .ok (.iload_n 3, 1) := by decide +kernel
theorem d320_7 : decode method_11_code 7 = .ok (.iload 4, 2) := by decide +kernel
theorem d320_9 : decode method_11_code 9 = .ok (.invokevirtual 42, 3) := by decide +kernel
theorem d320_12 : decode method_11_code 12 = .ok (.i2l, 1) := by decide +kernel
theorem d320_13 : decode method_11_code 13 = .ok (.lastore, 1) := by decide +kernel
theorem d320_14 : decode method_11_code 14 = .ok (.goto 11, 3) := by decide +kernel
theorem d320_17 : decode method_11_code 17 = .ok (.astore 6, 2) := by decide +kernel
theorem d320_19 : decode method_11_code 19 = .ok (.iconst 1, 1) := by decide +kernel
theorem d320_20 : decode method_11_code 20 = .ok (.ireturn, 1) := by decide +kernel
theorem d320_21 : decode method_11_code 21 = .ok (.astore 6, 2) := by decide +kernel
theorem d320_23 : decode method_11_code 23 = .ok (.iconst 2, 1) := by decide +kernel
theorem d320_24 : decode method_11_code 24 = .ok (.ireturn, 1) := by decide +kernel
theorem d320_25 : decode method_11_code 25 = .ok (.iconst 0, 1) := by decide +kernel
theorem d320_26 : decode method_11_code 26 = .ok (.ireturn, 1) := by decide +kernel
theorem b320 {X : mj_X} {d : Nat} {w : mj_W} {x0 : Nat} {x1 : Int32} {x2 : Int32} {x3 : Int32} {x4 : Int32} {x5 : Nat} : mj_call X d 320 [.ref x0, .int x1, .int x2, .int x3, .int x4, .ref x5] w = mj_exec X d 320 0 [some (.ref x0), some (.int x1), some (.int x2), some (.int x3), some (.int x4), some (.ref x5), none] [] w := mw_ent mw_m320 (Nat.le_of_ble_eq_true rfl) rfl
theorem mw_p11_42 : mj_pool 11 42 = some (2, 174, 1) := by decide +kernel
theorem b320_0 {x1 x2 x3 x4 : Int32} : mj_exec X (d + 1) 320 0 [some (.ref 0), some (.int x1), some (.int x2), some (.int x3), some (.int x4), some (.ref 79), none] [] (mw_U s) = (mj_call X d 174 [.ref 0, .int x1, .int x2, .int x3, .int x4] (mw_U s)).bind (mj_back X (d + 1) 320 9 [some (.ref 0), some (.int x1), some (.int x2), some (.int x3), some (.int x4), some (.ref 79), none] [.int (nI 0), .ref 79] mw_M320) := (mj_q_aload mw_m320 d320_0 rfl (by decide)).trans ((mj_q_iconst mw_m320 d320_2 mw_k_iconst_0).trans ((mj_q_aload_n mw_m320 d320_3 rfl (by decide)).trans ((mj_q_iload_n mw_m320 d320_4 rfl).trans ((mj_q_iload_n mw_m320 d320_5 rfl).trans ((mj_q_iload_n mw_m320 d320_6 rfl).trans ((mj_q_iload mw_m320 d320_7 rfl).trans (mw_q_callvh mw_m320 d320_9 mw_p11_42 mw_m174 rfl rfl (Nat.le_of_ble_eq_true rfl) (Nat.le_of_ble_eq_true rfl) rfl (mw_rcv mw_c_0) rfl rfl)))))))
theorem b320_12 {x1 x2 x3 x4 : Int32} {v : Int32} : mj_exec X d 320 12 [some (.ref 0), some (.int x1), some (.int x2), some (.int x3), some (.int x4), some (.ref 79), none] [.int v, .int (nI 0), .ref 79] (mw_U t) = some (.inl (some (.int (nI 0))), mw_U (mw_pl t 79 0 (Int32.toInt64 v))) := (mj_q_i2l mw_m320 d320_12).trans ((mw_q_last mw_m320 d320_13 mw_l_79 (by decide)).trans ((mj_q_goto mw_m320 d320_14 rfl).trans ((mj_q_iconst mw_m320 d320_25 mw_k_iconst_0).trans (mj_q_iret mw_m320 d320_26 rfl))))
theorem w320_v {x1 x2 x3 x4 : Int32} {v : Int32} (e : mj_call X d 174 [.ref 0, .int x1, .int x2, .int x3, .int x4] (mw_U s) = some (.inl (some (.int v)), mw_U t)) : mj_call X (d + 1) 320 [.ref 0, .int x1, .int x2, .int x3, .int x4, .ref 79] (mw_U s) = some (.inl (some (.int (nI 0))), mw_U (mw_pl t 79 0 (Int32.toInt64 v))) := by
  rw [b320, b320_0, e, mw_back_v, b320_12]
theorem w320_x0 {x1 x2 x3 x4 : Int32} (e : mj_call X d 174 [.ref 0, .int x1, .int x2, .int x3, .int x4] (mw_U s) = some (.inr 0, mw_U t)) : mj_call X (d + 1) 320 [.ref 0, .int x1, .int x2, .int x3, .int x4, .ref 79] (mw_U s) = some (.inl (some (.int (nI 1))), mw_U t) := by
  rw [b320, b320_0, e]
  exact (mw_back_y (M := mw_M320) (by decide) (h := 17) (by decide +kernel) d320_17 ⟨(Nat.le_of_ble_eq_true rfl), rfl⟩ rfl).trans ((mj_q_iconst mw_m320 d320_19 mw_k_iconst_1).trans (mj_q_iret mw_m320 d320_20 rfl))
theorem w320_x1 {x1 x2 x3 x4 : Int32} (e : mj_call X d 174 [.ref 0, .int x1, .int x2, .int x3, .int x4] (mw_U s) = some (.inr 1, mw_U t)) : mj_call X (d + 1) 320 [.ref 0, .int x1, .int x2, .int x3, .int x4, .ref 79] (mw_U s) = some (.inl (some (.int (nI 2))), mw_U t) := by
  rw [b320, b320_0, e]
  exact (mw_back_y (M := mw_M320) (by decide) (h := 21) (by decide +kernel) d320_21 ⟨(Nat.le_of_ble_eq_true rfl), rfl⟩ rfl).trans ((mj_q_iconst mw_m320 d320_23 mw_k_iconst_2).trans (mj_q_iret mw_m320 d320_24 rfl))
theorem d321_0 : decode method_12_code 0 = .ok (.aload_n 3, 1) := by decide +kernel
theorem d321_1 : decode method_12_code 1 = .ok (.iconst 0, 1) := by decide +kernel
theorem d321_2 : decode method_12_code 2 = .ok (.aload_n 0, 1) := by decide +kernel
theorem d321_3 : decode method_12_code 3 = .ok (.iload_n 1, 1) := by decide +kernel
theorem d321_4 : decode method_12_code 4 = .ok (.iload_n 2, 1) := by decide +kernel
theorem d321_5 : decode method_12_code 5 = .ok (.invokevirtual 45, 3) := by decide +kernel
theorem d321_8 : decode method_12_code 8 = .ok (.i2l, 1) := by decide +kernel
theorem d321_9 : decode method_12_code 9 = .ok (.lastore, 1) := by decide +kernel
theorem d321_10 : decode method_12_code 10 = .ok (.goto 7, 3) := by decide +kernel
theorem d321_13 : decode method_12_code 13 = .ok (.astore 4, 2) := by decide +kernel
theorem d321_15 : decode method_12_code 15 = .ok (.iconst 1, 1) := by decide +kernel
theorem d321_16 : decode method_12_code 16 = .ok (.ireturn, 1) := by decide +kernel
theorem d321_17 : decode method_12_code 17 = .ok (.iconst 0, 1) := by decide +kernel
theorem d321_18 : decode method_12_code 18 = .ok (.ireturn, 1) := by decide +kernel
theorem b321 {X : mj_X} {d : Nat} {w : mj_W} {x0 : Nat} {x1 : Int32} {x2 : Int32} {x3 : Nat} : mj_call X d 321 [.ref x0, .int x1, .int x2, .ref x3] w = mj_exec X d 321 0 [some (.ref x0), some (.int x1), some (.int x2), some (.ref x3), none] [] w := mw_ent mw_m321 (Nat.le_of_ble_eq_true rfl) rfl
theorem mw_p11_45 : mj_pool 11 45 = some (2, 177, 1) := by decide +kernel
theorem b321_0 {x1 x2 : Int32} : mj_exec X (d + 1) 321 0 [some (.ref 0), some (.int x1), some (.int x2), some (.ref 79), none] [] (mw_U s) = (mj_call X d 177 [.ref 0, .int x1, .int x2] (mw_U s)).bind (mj_back X (d + 1) 321 5 [some (.ref 0), some (.int x1), some (.int x2), some (.ref 79), none] [.int (nI 0), .ref 79] mw_M321) := (mj_q_aload_n mw_m321 d321_0 rfl (by decide)).trans ((mj_q_iconst mw_m321 d321_1 mw_k_iconst_0).trans ((mj_q_aload_n mw_m321 d321_2 rfl (by decide)).trans ((mj_q_iload_n mw_m321 d321_3 rfl).trans ((mj_q_iload_n mw_m321 d321_4 rfl).trans (mw_q_callvh mw_m321 d321_5 mw_p11_45 mw_m177 rfl rfl (Nat.le_of_ble_eq_true rfl) (Nat.le_of_ble_eq_true rfl) rfl (mw_rcv mw_c_0) rfl rfl)))))
theorem b321_8 {x1 x2 : Int32} {v : Int32} : mj_exec X d 321 8 [some (.ref 0), some (.int x1), some (.int x2), some (.ref 79), none] [.int v, .int (nI 0), .ref 79] (mw_U t) = some (.inl (some (.int (nI 0))), mw_U (mw_pl t 79 0 (Int32.toInt64 v))) := (mj_q_i2l mw_m321 d321_8).trans ((mw_q_last mw_m321 d321_9 mw_l_79 (by decide)).trans ((mj_q_goto mw_m321 d321_10 rfl).trans ((mj_q_iconst mw_m321 d321_17 mw_k_iconst_0).trans (mj_q_iret mw_m321 d321_18 rfl))))
theorem w321_v {x1 x2 : Int32} {v : Int32} (e : mj_call X d 177 [.ref 0, .int x1, .int x2] (mw_U s) = some (.inl (some (.int v)), mw_U t)) : mj_call X (d + 1) 321 [.ref 0, .int x1, .int x2, .ref 79] (mw_U s) = some (.inl (some (.int (nI 0))), mw_U (mw_pl t 79 0 (Int32.toInt64 v))) := by
  rw [b321, b321_0, e, mw_back_v, b321_8]
theorem w321_x0 {x1 x2 : Int32} (e : mj_call X d 177 [.ref 0, .int x1, .int x2] (mw_U s) = some (.inr 0, mw_U t)) : mj_call X (d + 1) 321 [.ref 0, .int x1, .int x2, .ref 79] (mw_U s) = some (.inl (some (.int (nI 1))), mw_U t) := by
  rw [b321, b321_0, e]
  exact (mw_back_y (M := mw_M321) (by decide) (h := 13) (by decide +kernel) d321_13 ⟨(Nat.le_of_ble_eq_true rfl), rfl⟩ rfl).trans ((mj_q_iconst mw_m321 d321_15 mw_k_iconst_1).trans (mj_q_iret mw_m321 d321_16 rfl))
theorem d322_0 : decode method_13_code 0 = .ok (.aload_n 3, 1) := by decide +kernel
theorem d322_1 : decode method_13_code 1 = .ok (.iconst 0, 1) := by decide +kernel
theorem d322_2 : decode method_13_code 2 = .ok (.aload_n 0, 1) := by decide +kernel
theorem d322_3 : decode method_13_code 3 = .ok (.iload_n 1, 1) := by decide +kernel
theorem d322_4 : decode method_13_code 4 = .ok (.iload_n 2, 1) := by decide +kernel
theorem d322_5 : decode method_13_code 5 = .ok (.invokevirtual 48, 3) := by decide +kernel
theorem d322_8 : decode method_13_code 8 = .ok (.i2l, 1) := by decide +kernel
theorem d322_9 : decode method_13_code 9 = .ok (.lastore, 1) := by decide +kernel
theorem d322_10 : decode method_13_code 10 = .ok (.goto 11, 3) := by decide +kernel
theorem d322_13 : decode method_13_code 13 = .ok (.astore 4, 2) := by decide +kernel
theorem d322_15 : decode method_13_code 15 = .ok (.iconst 1, 1) := by decide +kernel
theorem d322_16 : decode method_13_code 16 = .ok (.ireturn, 1) := by decide +kernel
theorem d322_17 : decode method_13_code 17 = .ok (.astore 4, 2) := by decide +kernel
theorem d322_19 : decode method_13_code 19 = .ok (.iconst 2, 1) := by decide +kernel
theorem d322_20 : decode method_13_code 20 = .ok (.ireturn, 1) := by decide +kernel
theorem d322_21 : decode method_13_code 21 = .ok (.iconst 0, 1) := by decide +kernel
theorem d322_22 : decode method_13_code 22 = .ok (.ireturn, 1) := by decide +kernel
theorem b322 {X : mj_X} {d : Nat} {w : mj_W} {x0 : Nat} {x1 : Int32} {x2 : Int32} {x3 : Nat} : mj_call X d 322 [.ref x0, .int x1, .int x2, .ref x3] w = mj_exec X d 322 0 [some (.ref x0), some (.int x1), some (.int x2), some (.ref x3), none] [] w := mw_ent mw_m322 (Nat.le_of_ble_eq_true rfl) rfl
theorem mw_p11_48 : mj_pool 11 48 = some (2, 178, 1) := by decide +kernel
theorem b322_0 {x1 x2 : Int32} : mj_exec X (d + 1) 322 0 [some (.ref 0), some (.int x1), some (.int x2), some (.ref 79), none] [] (mw_U s) = (mj_call X d 178 [.ref 0, .int x1, .int x2] (mw_U s)).bind (mj_back X (d + 1) 322 5 [some (.ref 0), some (.int x1), some (.int x2), some (.ref 79), none] [.int (nI 0), .ref 79] mw_M322) := (mj_q_aload_n mw_m322 d322_0 rfl (by decide)).trans ((mj_q_iconst mw_m322 d322_1 mw_k_iconst_0).trans ((mj_q_aload_n mw_m322 d322_2 rfl (by decide)).trans ((mj_q_iload_n mw_m322 d322_3 rfl).trans ((mj_q_iload_n mw_m322 d322_4 rfl).trans (mw_q_callvh mw_m322 d322_5 mw_p11_48 mw_m178 rfl rfl (Nat.le_of_ble_eq_true rfl) (Nat.le_of_ble_eq_true rfl) rfl (mw_rcv mw_c_0) rfl rfl)))))
theorem b322_8 {x1 x2 : Int32} {v : Int32} : mj_exec X d 322 8 [some (.ref 0), some (.int x1), some (.int x2), some (.ref 79), none] [.int v, .int (nI 0), .ref 79] (mw_U t) = some (.inl (some (.int (nI 0))), mw_U (mw_pl t 79 0 (Int32.toInt64 v))) := (mj_q_i2l mw_m322 d322_8).trans ((mw_q_last mw_m322 d322_9 mw_l_79 (by decide)).trans ((mj_q_goto mw_m322 d322_10 rfl).trans ((mj_q_iconst mw_m322 d322_21 mw_k_iconst_0).trans (mj_q_iret mw_m322 d322_22 rfl))))
theorem w322_v {x1 x2 : Int32} {v : Int32} (e : mj_call X d 178 [.ref 0, .int x1, .int x2] (mw_U s) = some (.inl (some (.int v)), mw_U t)) : mj_call X (d + 1) 322 [.ref 0, .int x1, .int x2, .ref 79] (mw_U s) = some (.inl (some (.int (nI 0))), mw_U (mw_pl t 79 0 (Int32.toInt64 v))) := by
  rw [b322, b322_0, e, mw_back_v, b322_8]
theorem w322_x0 {x1 x2 : Int32} (e : mj_call X d 178 [.ref 0, .int x1, .int x2] (mw_U s) = some (.inr 0, mw_U t)) : mj_call X (d + 1) 322 [.ref 0, .int x1, .int x2, .ref 79] (mw_U s) = some (.inl (some (.int (nI 1))), mw_U t) := by
  rw [b322, b322_0, e]
  exact (mw_back_y (M := mw_M322) (by decide) (h := 13) (by decide +kernel) d322_13 ⟨(Nat.le_of_ble_eq_true rfl), rfl⟩ rfl).trans ((mj_q_iconst mw_m322 d322_15 mw_k_iconst_1).trans (mj_q_iret mw_m322 d322_16 rfl))
theorem w322_x1 {x1 x2 : Int32} (e : mj_call X d 178 [.ref 0, .int x1, .int x2] (mw_U s) = some (.inr 1, mw_U t)) : mj_call X (d + 1) 322 [.ref 0, .int x1, .int x2, .ref 79] (mw_U s) = some (.inl (some (.int (nI 2))), mw_U t) := by
  rw [b322, b322_0, e]
  exact (mw_back_y (M := mw_M322) (by decide) (h := 17) (by decide +kernel) d322_17 ⟨(Nat.le_of_ble_eq_true rfl), rfl⟩ rfl).trans ((mj_q_iconst mw_m322 d322_19 mw_k_iconst_2).trans (mj_q_iret mw_m322 d322_20 rfl))
theorem d323_0 : decode method_14_code 0 = .ok (.aload_n 3, 1) := by decide +kernel
theorem d323_1 : decode method_14_code 1 = .ok (.iconst 0, 1) := by decide +kernel
theorem d323_2 : decode method_14_code 2 = .ok (.aload_n 0, 1) := by decide +kernel
theorem d323_3 : decode method_14_code 3 = .ok (.iload_n 1, 1) := by decide +kernel
theorem d323_4 : decode method_14_code 4 = .ok (.iload_n 2, 1) := by decide +kernel
theorem d323_5 : decode method_14_code 5 = .ok (.invokevirtual 51, 3) := by decide +kernel
theorem d323_8 : decode method_14_code 8 = .ok (.i2l, 1) := by decide +kernel
theorem d323_9 : decode method_14_code 9 = .ok (.lastore, 1) := by decide +kernel
theorem d323_10 : decode method_14_code 10 = .ok (.goto 7, 3) := by decide +kernel
theorem d323_13 : decode method_14_code 13 = .ok (.astore 4, 2) := by decide +kernel
theorem d323_15 : decode method_14_code 15 = .ok (.iconst 1, 1) := by decide +kernel
theorem d323_16 : decode method_14_code 16 = .ok (.ireturn, 1) := by decide +kernel
theorem d323_17 : decode method_14_code 17 = .ok (.iconst 0, 1) := by decide +kernel
theorem d323_18 : decode method_14_code 18 = .ok (.ireturn, 1) := by decide +kernel
theorem b323 {X : mj_X} {d : Nat} {w : mj_W} {x0 : Nat} {x1 : Int32} {x2 : Int32} {x3 : Nat} : mj_call X d 323 [.ref x0, .int x1, .int x2, .ref x3] w = mj_exec X d 323 0 [some (.ref x0), some (.int x1), some (.int x2), some (.ref x3), none] [] w := mw_ent mw_m323 (Nat.le_of_ble_eq_true rfl) rfl
theorem mw_p11_51 : mj_pool 11 51 = some (2, 180, 1) := by decide +kernel
theorem b323_0 {x1 x2 : Int32} : mj_exec X (d + 1) 323 0 [some (.ref 0), some (.int x1), some (.int x2), some (.ref 79), none] [] (mw_U s) = (mj_call X d 180 [.ref 0, .int x1, .int x2] (mw_U s)).bind (mj_back X (d + 1) 323 5 [some (.ref 0), some (.int x1), some (.int x2), some (.ref 79), none] [.int (nI 0), .ref 79] mw_M323) := (mj_q_aload_n mw_m323 d323_0 rfl (by decide)).trans ((mj_q_iconst mw_m323 d323_1 mw_k_iconst_0).trans ((mj_q_aload_n mw_m323 d323_2 rfl (by decide)).trans ((mj_q_iload_n mw_m323 d323_3 rfl).trans ((mj_q_iload_n mw_m323 d323_4 rfl).trans (mw_q_callvh mw_m323 d323_5 mw_p11_51 mw_m180 rfl rfl (Nat.le_of_ble_eq_true rfl) (Nat.le_of_ble_eq_true rfl) rfl (mw_rcv mw_c_0) rfl rfl)))))
theorem b323_8 {x1 x2 : Int32} {v : Int32} : mj_exec X d 323 8 [some (.ref 0), some (.int x1), some (.int x2), some (.ref 79), none] [.int v, .int (nI 0), .ref 79] (mw_U t) = some (.inl (some (.int (nI 0))), mw_U (mw_pl t 79 0 (Int32.toInt64 v))) := (mj_q_i2l mw_m323 d323_8).trans ((mw_q_last mw_m323 d323_9 mw_l_79 (by decide)).trans ((mj_q_goto mw_m323 d323_10 rfl).trans ((mj_q_iconst mw_m323 d323_17 mw_k_iconst_0).trans (mj_q_iret mw_m323 d323_18 rfl))))
theorem w323_v {x1 x2 : Int32} {v : Int32} (e : mj_call X d 180 [.ref 0, .int x1, .int x2] (mw_U s) = some (.inl (some (.int v)), mw_U t)) : mj_call X (d + 1) 323 [.ref 0, .int x1, .int x2, .ref 79] (mw_U s) = some (.inl (some (.int (nI 0))), mw_U (mw_pl t 79 0 (Int32.toInt64 v))) := by
  rw [b323, b323_0, e, mw_back_v, b323_8]
theorem w323_x0 {x1 x2 : Int32} (e : mj_call X d 180 [.ref 0, .int x1, .int x2] (mw_U s) = some (.inr 0, mw_U t)) : mj_call X (d + 1) 323 [.ref 0, .int x1, .int x2, .ref 79] (mw_U s) = some (.inl (some (.int (nI 1))), mw_U t) := by
  rw [b323, b323_0, e]
  exact (mw_back_y (M := mw_M323) (by decide) (h := 13) (by decide +kernel) d323_13 ⟨(Nat.le_of_ble_eq_true rfl), rfl⟩ rfl).trans ((mj_q_iconst mw_m323 d323_15 mw_k_iconst_1).trans (mj_q_iret mw_m323 d323_16 rfl))
theorem d324_0 : decode method_15_code 0 = .ok (.aload_n 3, 1) := by decide +kernel
theorem d324_1 : decode method_15_code 1 = .ok (.iconst 0, 1) := by decide +kernel
theorem d324_2 : decode method_15_code 2 = .ok (.aload_n 0, 1) := by decide +kernel
theorem d324_3 : decode method_15_code 3 = .ok (.iload_n 1, 1) := by decide +kernel
theorem d324_4 : decode method_15_code 4 = .ok (.iload_n 2, 1) := by decide +kernel
theorem d324_5 : decode method_15_code 5 = .ok (.invokevirtual 54, 3) := by decide +kernel
theorem d324_8 : decode method_15_code 8 = .ok (.i2l, 1) := by decide +kernel
theorem d324_9 : decode method_15_code 9 = .ok (.lastore, 1) := by decide +kernel
theorem d324_10 : decode method_15_code 10 = .ok (.goto 7, 3) := by decide +kernel
theorem d324_13 : decode method_15_code 13 = .ok (.astore 4, 2) := by decide +kernel
theorem d324_15 : decode method_15_code 15 = .ok (.iconst 1, 1) := by decide +kernel
theorem d324_16 : decode method_15_code 16 = .ok (.ireturn, 1) := by decide +kernel
theorem d324_17 : decode method_15_code 17 = .ok (.iconst 0, 1) := by decide +kernel
theorem d324_18 : decode method_15_code 18 = .ok (.ireturn, 1) := by decide +kernel
theorem b324 {X : mj_X} {d : Nat} {w : mj_W} {x0 : Nat} {x1 : Int32} {x2 : Int32} {x3 : Nat} : mj_call X d 324 [.ref x0, .int x1, .int x2, .ref x3] w = mj_exec X d 324 0 [some (.ref x0), some (.int x1), some (.int x2), some (.ref x3), none] [] w := mw_ent mw_m324 (Nat.le_of_ble_eq_true rfl) rfl
theorem mw_p11_54 : mj_pool 11 54 = some (2, 181, 1) := by decide +kernel
theorem b324_0 {x1 x2 : Int32} : mj_exec X (d + 1) 324 0 [some (.ref 0), some (.int x1), some (.int x2), some (.ref 79), none] [] (mw_U s) = (mj_call X d 181 [.ref 0, .int x1, .int x2] (mw_U s)).bind (mj_back X (d + 1) 324 5 [some (.ref 0), some (.int x1), some (.int x2), some (.ref 79), none] [.int (nI 0), .ref 79] mw_M324) := (mj_q_aload_n mw_m324 d324_0 rfl (by decide)).trans ((mj_q_iconst mw_m324 d324_1 mw_k_iconst_0).trans ((mj_q_aload_n mw_m324 d324_2 rfl (by decide)).trans ((mj_q_iload_n mw_m324 d324_3 rfl).trans ((mj_q_iload_n mw_m324 d324_4 rfl).trans (mw_q_callvh mw_m324 d324_5 mw_p11_54 mw_m181 rfl rfl (Nat.le_of_ble_eq_true rfl) (Nat.le_of_ble_eq_true rfl) rfl (mw_rcv mw_c_0) rfl rfl)))))
theorem b324_8 {x1 x2 : Int32} {v : Int32} : mj_exec X d 324 8 [some (.ref 0), some (.int x1), some (.int x2), some (.ref 79), none] [.int v, .int (nI 0), .ref 79] (mw_U t) = some (.inl (some (.int (nI 0))), mw_U (mw_pl t 79 0 (Int32.toInt64 v))) := (mj_q_i2l mw_m324 d324_8).trans ((mw_q_last mw_m324 d324_9 mw_l_79 (by decide)).trans ((mj_q_goto mw_m324 d324_10 rfl).trans ((mj_q_iconst mw_m324 d324_17 mw_k_iconst_0).trans (mj_q_iret mw_m324 d324_18 rfl))))
theorem w324_v {x1 x2 : Int32} {v : Int32} (e : mj_call X d 181 [.ref 0, .int x1, .int x2] (mw_U s) = some (.inl (some (.int v)), mw_U t)) : mj_call X (d + 1) 324 [.ref 0, .int x1, .int x2, .ref 79] (mw_U s) = some (.inl (some (.int (nI 0))), mw_U (mw_pl t 79 0 (Int32.toInt64 v))) := by
  rw [b324, b324_0, e, mw_back_v, b324_8]
theorem w324_x0 {x1 x2 : Int32} (e : mj_call X d 181 [.ref 0, .int x1, .int x2] (mw_U s) = some (.inr 0, mw_U t)) : mj_call X (d + 1) 324 [.ref 0, .int x1, .int x2, .ref 79] (mw_U s) = some (.inl (some (.int (nI 1))), mw_U t) := by
  rw [b324, b324_0, e]
  exact (mw_back_y (M := mw_M324) (by decide) (h := 13) (by decide +kernel) d324_13 ⟨(Nat.le_of_ble_eq_true rfl), rfl⟩ rfl).trans ((mj_q_iconst mw_m324 d324_15 mw_k_iconst_1).trans (mj_q_iret mw_m324 d324_16 rfl))
theorem d325_0 : decode method_16_code 0 = .ok (.aload_n 2, 1) := by decide +kernel
theorem d325_1 : decode method_16_code 1 = .ok (.iconst 0, 1) := by decide +kernel
theorem d325_2 : decode method_16_code 2 = .ok (.aload_n 0, 1) := by decide +kernel
theorem d325_3 : decode method_16_code 3 = .ok (.iload_n 1, 1) := by decide +kernel
theorem d325_4 : decode method_16_code 4 = .ok (.invokevirtual 57, 3) := by decide +kernel
theorem d325_7 : decode method_16_code 7 = .ok (.i2l, 1) := by decide +kernel
theorem d325_8 : decode method_16_code 8 = .ok (.lastore, 1) := by decide +kernel
theorem d325_9 : decode method_16_code 9 = .ok (.goto 6, 3) := by decide +kernel
theorem d325_12 : decode method_16_code 12 = .ok (.astore_n 3, 1) := by decide +kernel
theorem d325_13 : decode method_16_code 13 = .ok (.iconst 1, 1) := by decide +kernel
theorem d325_14 : decode method_16_code 14 = .ok (.ireturn, 1) := by decide +kernel
theorem d325_15 : decode method_16_code 15 = .ok (.iconst 0, 1) := by decide +kernel
theorem d325_16 : decode method_16_code 16 = .ok (.ireturn, 1) := by decide +kernel
theorem b325 {X : mj_X} {d : Nat} {w : mj_W} {x0 : Nat} {x1 : Int32} {x2 : Nat} : mj_call X d 325 [.ref x0, .int x1, .ref x2] w = mj_exec X d 325 0 [some (.ref x0), some (.int x1), some (.ref x2), none] [] w := mw_ent mw_m325 (Nat.le_of_ble_eq_true rfl) rfl
theorem mw_p11_57 : mj_pool 11 57 = some (2, 182, 1) := by decide +kernel
theorem b325_0 {x1 : Int32} : mj_exec X (d + 1) 325 0 [some (.ref 0), some (.int x1), some (.ref 79), none] [] (mw_U s) = (mj_call X d 182 [.ref 0, .int x1] (mw_U s)).bind (mj_back X (d + 1) 325 4 [some (.ref 0), some (.int x1), some (.ref 79), none] [.int (nI 0), .ref 79] mw_M325) := (mj_q_aload_n mw_m325 d325_0 rfl (by decide)).trans ((mj_q_iconst mw_m325 d325_1 mw_k_iconst_0).trans ((mj_q_aload_n mw_m325 d325_2 rfl (by decide)).trans ((mj_q_iload_n mw_m325 d325_3 rfl).trans (mw_q_callvh mw_m325 d325_4 mw_p11_57 mw_m182 rfl rfl (Nat.le_of_ble_eq_true rfl) (Nat.le_of_ble_eq_true rfl) rfl (mw_rcv mw_c_0) rfl rfl))))
theorem b325_7 {x1 : Int32} {v : Int32} : mj_exec X d 325 7 [some (.ref 0), some (.int x1), some (.ref 79), none] [.int v, .int (nI 0), .ref 79] (mw_U t) = some (.inl (some (.int (nI 0))), mw_U (mw_pl t 79 0 (Int32.toInt64 v))) := (mj_q_i2l mw_m325 d325_7).trans ((mw_q_last mw_m325 d325_8 mw_l_79 (by decide)).trans ((mj_q_goto mw_m325 d325_9 rfl).trans ((mj_q_iconst mw_m325 d325_15 mw_k_iconst_0).trans (mj_q_iret mw_m325 d325_16 rfl))))
theorem w325_v {x1 : Int32} {v : Int32} (e : mj_call X d 182 [.ref 0, .int x1] (mw_U s) = some (.inl (some (.int v)), mw_U t)) : mj_call X (d + 1) 325 [.ref 0, .int x1, .ref 79] (mw_U s) = some (.inl (some (.int (nI 0))), mw_U (mw_pl t 79 0 (Int32.toInt64 v))) := by
  rw [b325, b325_0, e, mw_back_v, b325_7]
theorem w325_x0 {x1 : Int32} (e : mj_call X d 182 [.ref 0, .int x1] (mw_U s) = some (.inr 0, mw_U t)) : mj_call X (d + 1) 325 [.ref 0, .int x1, .ref 79] (mw_U s) = some (.inl (some (.int (nI 1))), mw_U t) := by
  rw [b325, b325_0, e]
  exact (mw_back_x (M := mw_M325) (by decide) (h := 12) (by decide +kernel) d325_12 ⟨(Nat.le_of_ble_eq_true rfl), rfl⟩ rfl).trans ((mj_q_iconst mw_m325 d325_13 mw_k_iconst_1).trans (mj_q_iret mw_m325 d325_14 rfl))
theorem d326_0 : decode method_17_code 0 = .ok (.aload_n 2, 1) := by decide +kernel
theorem d326_1 : decode method_17_code 1 = .ok (.iconst 0, 1) := by decide +kernel
theorem d326_2 : decode method_17_code 2 = .ok (.aload_n 0, 1) := by decide +kernel
theorem d326_3 : decode method_17_code 3 = .ok (.iload_n 1, 1) := by decide +kernel
theorem d326_4 : decode method_17_code 4 = .ok (.invokevirtual 60, 3) := by decide +kernel
theorem d326_7 : decode method_17_code 7 = .ok (.i2l, 1) := by decide +kernel
theorem d326_8 : decode method_17_code 8 = .ok (.lastore, 1) := by decide +kernel
theorem d326_9 : decode method_17_code 9 = .ok (.goto 6, 3) := by decide +kernel
theorem d326_12 : decode method_17_code 12 = .ok (.astore_n 3, 1) := by decide +kernel
theorem d326_13 : decode method_17_code 13 = .ok (.iconst 1, 1) := by decide +kernel
theorem d326_14 : decode method_17_code 14 = .ok (.ireturn, 1) := by decide +kernel
theorem d326_15 : decode method_17_code 15 = .ok (.iconst 0, 1) := by decide +kernel
theorem d326_16 : decode method_17_code 16 = .ok (.ireturn, 1) := by decide +kernel
theorem b326 {X : mj_X} {d : Nat} {w : mj_W} {x0 : Nat} {x1 : Int32} {x2 : Nat} : mj_call X d 326 [.ref x0, .int x1, .ref x2] w = mj_exec X d 326 0 [some (.ref x0), some (.int x1), some (.ref x2), none] [] w := mw_ent mw_m326 (Nat.le_of_ble_eq_true rfl) rfl
theorem mw_p11_60 : mj_pool 11 60 = some (2, 183, 1) := by decide +kernel
theorem b326_0 {x1 : Int32} : mj_exec X (d + 1) 326 0 [some (.ref 0), some (.int x1), some (.ref 79), none] [] (mw_U s) = (mj_call X d 183 [.ref 0, .int x1] (mw_U s)).bind (mj_back X (d + 1) 326 4 [some (.ref 0), some (.int x1), some (.ref 79), none] [.int (nI 0), .ref 79] mw_M326) := (mj_q_aload_n mw_m326 d326_0 rfl (by decide)).trans ((mj_q_iconst mw_m326 d326_1 mw_k_iconst_0).trans ((mj_q_aload_n mw_m326 d326_2 rfl (by decide)).trans ((mj_q_iload_n mw_m326 d326_3 rfl).trans (mw_q_callvh mw_m326 d326_4 mw_p11_60 mw_m183 rfl rfl (Nat.le_of_ble_eq_true rfl) (Nat.le_of_ble_eq_true rfl) rfl (mw_rcv mw_c_0) rfl rfl))))
theorem b326_7 {x1 : Int32} {v : Int32} : mj_exec X d 326 7 [some (.ref 0), some (.int x1), some (.ref 79), none] [.int v, .int (nI 0), .ref 79] (mw_U t) = some (.inl (some (.int (nI 0))), mw_U (mw_pl t 79 0 (Int32.toInt64 v))) := (mj_q_i2l mw_m326 d326_7).trans ((mw_q_last mw_m326 d326_8 mw_l_79 (by decide)).trans ((mj_q_goto mw_m326 d326_9 rfl).trans ((mj_q_iconst mw_m326 d326_15 mw_k_iconst_0).trans (mj_q_iret mw_m326 d326_16 rfl))))
theorem w326_v {x1 : Int32} {v : Int32} (e : mj_call X d 183 [.ref 0, .int x1] (mw_U s) = some (.inl (some (.int v)), mw_U t)) : mj_call X (d + 1) 326 [.ref 0, .int x1, .ref 79] (mw_U s) = some (.inl (some (.int (nI 0))), mw_U (mw_pl t 79 0 (Int32.toInt64 v))) := by
  rw [b326, b326_0, e, mw_back_v, b326_7]
theorem w326_x0 {x1 : Int32} (e : mj_call X d 183 [.ref 0, .int x1] (mw_U s) = some (.inr 0, mw_U t)) : mj_call X (d + 1) 326 [.ref 0, .int x1, .ref 79] (mw_U s) = some (.inl (some (.int (nI 1))), mw_U t) := by
  rw [b326, b326_0, e]
  exact (mw_back_x (M := mw_M326) (by decide) (h := 12) (by decide +kernel) d326_12 ⟨(Nat.le_of_ble_eq_true rfl), rfl⟩ rfl).trans ((mj_q_iconst mw_m326 d326_13 mw_k_iconst_1).trans (mj_q_iret mw_m326 d326_14 rfl))
theorem d327_0 : decode method_18_code 0 = .ok (.aload_n 2, 1) := by decide +kernel
theorem d327_1 : decode method_18_code 1 = .ok (.iconst 0, 1) := by decide +kernel
theorem d327_2 : decode method_18_code 2 = .ok (.aload_n 0, 1) := by decide +kernel
theorem d327_3 : decode method_18_code 3 = .ok (.iload_n 1, 1) := by decide +kernel
theorem d327_4 : decode method_18_code 4 = .ok (.invokevirtual 63, 3) := by decide +kernel
theorem d327_7 : decode method_18_code 7 = .ok (.i2l, 1) := by decide +kernel
theorem d327_8 : decode method_18_code 8 = .ok (.lastore, 1) := by decide +kernel
theorem d327_9 : decode method_18_code 9 = .ok (.goto 6, 3) := by decide +kernel
theorem d327_12 : decode method_18_code 12 = .ok (.astore_n 3, 1) := by decide +kernel
theorem d327_13 : decode method_18_code 13 = .ok (.iconst 1, 1) := by decide +kernel
theorem d327_14 : decode method_18_code 14 = .ok (.ireturn, 1) := by decide +kernel
theorem d327_15 : decode method_18_code 15 = .ok (.iconst 0, 1) := by decide +kernel
theorem d327_16 : decode method_18_code 16 = .ok (.ireturn, 1) := by decide +kernel
theorem b327 {X : mj_X} {d : Nat} {w : mj_W} {x0 : Nat} {x1 : Int32} {x2 : Nat} : mj_call X d 327 [.ref x0, .int x1, .ref x2] w = mj_exec X d 327 0 [some (.ref x0), some (.int x1), some (.ref x2), none] [] w := mw_ent mw_m327 (Nat.le_of_ble_eq_true rfl) rfl
theorem mw_p11_63 : mj_pool 11 63 = some (2, 184, 1) := by decide +kernel
theorem b327_0 {x1 : Int32} : mj_exec X (d + 1) 327 0 [some (.ref 0), some (.int x1), some (.ref 79), none] [] (mw_U s) = (mj_call X d 184 [.ref 0, .int x1] (mw_U s)).bind (mj_back X (d + 1) 327 4 [some (.ref 0), some (.int x1), some (.ref 79), none] [.int (nI 0), .ref 79] mw_M327) := (mj_q_aload_n mw_m327 d327_0 rfl (by decide)).trans ((mj_q_iconst mw_m327 d327_1 mw_k_iconst_0).trans ((mj_q_aload_n mw_m327 d327_2 rfl (by decide)).trans ((mj_q_iload_n mw_m327 d327_3 rfl).trans (mw_q_callvh mw_m327 d327_4 mw_p11_63 mw_m184 rfl rfl (Nat.le_of_ble_eq_true rfl) (Nat.le_of_ble_eq_true rfl) rfl (mw_rcv mw_c_0) rfl rfl))))
theorem b327_7 {x1 : Int32} {v : Int32} : mj_exec X d 327 7 [some (.ref 0), some (.int x1), some (.ref 79), none] [.int v, .int (nI 0), .ref 79] (mw_U t) = some (.inl (some (.int (nI 0))), mw_U (mw_pl t 79 0 (Int32.toInt64 v))) := (mj_q_i2l mw_m327 d327_7).trans ((mw_q_last mw_m327 d327_8 mw_l_79 (by decide)).trans ((mj_q_goto mw_m327 d327_9 rfl).trans ((mj_q_iconst mw_m327 d327_15 mw_k_iconst_0).trans (mj_q_iret mw_m327 d327_16 rfl))))
theorem w327_v {x1 : Int32} {v : Int32} (e : mj_call X d 184 [.ref 0, .int x1] (mw_U s) = some (.inl (some (.int v)), mw_U t)) : mj_call X (d + 1) 327 [.ref 0, .int x1, .ref 79] (mw_U s) = some (.inl (some (.int (nI 0))), mw_U (mw_pl t 79 0 (Int32.toInt64 v))) := by
  rw [b327, b327_0, e, mw_back_v, b327_7]
theorem w327_x0 {x1 : Int32} (e : mj_call X d 184 [.ref 0, .int x1] (mw_U s) = some (.inr 0, mw_U t)) : mj_call X (d + 1) 327 [.ref 0, .int x1, .ref 79] (mw_U s) = some (.inl (some (.int (nI 1))), mw_U t) := by
  rw [b327, b327_0, e]
  exact (mw_back_x (M := mw_M327) (by decide) (h := 12) (by decide +kernel) d327_12 ⟨(Nat.le_of_ble_eq_true rfl), rfl⟩ rfl).trans ((mj_q_iconst mw_m327 d327_13 mw_k_iconst_1).trans (mj_q_iret mw_m327 d327_14 rfl))
theorem d328_0 : decode method_19_code 0 = .ok (.aload_n 2, 1) := by decide +kernel
theorem d328_1 : decode method_19_code 1 = .ok (.iconst 0, 1) := by decide +kernel
theorem d328_2 : decode method_19_code 2 = .ok (.aload_n 0, 1) := by decide +kernel
theorem d328_3 : decode method_19_code 3 = .ok (.iload_n 1, 1) := by decide +kernel
theorem d328_4 : decode method_19_code 4 = .ok (.invokevirtual 66, 3) := by decide +kernel
theorem d328_7 : decode method_19_code 7 = .ok (.i2l, 1) := by decide +kernel
theorem d328_8 : decode method_19_code 8 = .ok (.lastore, 1) := by decide +kernel
theorem d328_9 : decode method_19_code 9 = .ok (.goto 6, 3) := by decide +kernel
theorem d328_12 : decode method_19_code 12 = .ok (.astore_n 3, 1) := by decide +kernel
theorem d328_13 : decode method_19_code 13 = .ok (.iconst 1, 1) := by decide +kernel
theorem d328_14 : decode method_19_code 14 = .ok (.ireturn, 1) := by decide +kernel
theorem d328_15 : decode method_19_code 15 = .ok (.iconst 0, 1) := by decide +kernel
theorem d328_16 : decode method_19_code 16 = .ok (.ireturn, 1) := by decide +kernel
theorem b328 {X : mj_X} {d : Nat} {w : mj_W} {x0 : Nat} {x1 : Int32} {x2 : Nat} : mj_call X d 328 [.ref x0, .int x1, .ref x2] w = mj_exec X d 328 0 [some (.ref x0), some (.int x1), some (.ref x2), none] [] w := mw_ent mw_m328 (Nat.le_of_ble_eq_true rfl) rfl
theorem mw_p11_66 : mj_pool 11 66 = some (2, 185, 1) := by decide +kernel
theorem b328_0 {x1 : Int32} : mj_exec X (d + 1) 328 0 [some (.ref 0), some (.int x1), some (.ref 79), none] [] (mw_U s) = (mj_call X d 185 [.ref 0, .int x1] (mw_U s)).bind (mj_back X (d + 1) 328 4 [some (.ref 0), some (.int x1), some (.ref 79), none] [.int (nI 0), .ref 79] mw_M328) := (mj_q_aload_n mw_m328 d328_0 rfl (by decide)).trans ((mj_q_iconst mw_m328 d328_1 mw_k_iconst_0).trans ((mj_q_aload_n mw_m328 d328_2 rfl (by decide)).trans ((mj_q_iload_n mw_m328 d328_3 rfl).trans (mw_q_callvh mw_m328 d328_4 mw_p11_66 mw_m185 rfl rfl (Nat.le_of_ble_eq_true rfl) (Nat.le_of_ble_eq_true rfl) rfl (mw_rcv mw_c_0) rfl rfl))))
theorem b328_7 {x1 : Int32} {v : Int32} : mj_exec X d 328 7 [some (.ref 0), some (.int x1), some (.ref 79), none] [.int v, .int (nI 0), .ref 79] (mw_U t) = some (.inl (some (.int (nI 0))), mw_U (mw_pl t 79 0 (Int32.toInt64 v))) := (mj_q_i2l mw_m328 d328_7).trans ((mw_q_last mw_m328 d328_8 mw_l_79 (by decide)).trans ((mj_q_goto mw_m328 d328_9 rfl).trans ((mj_q_iconst mw_m328 d328_15 mw_k_iconst_0).trans (mj_q_iret mw_m328 d328_16 rfl))))
theorem w328_v {x1 : Int32} {v : Int32} (e : mj_call X d 185 [.ref 0, .int x1] (mw_U s) = some (.inl (some (.int v)), mw_U t)) : mj_call X (d + 1) 328 [.ref 0, .int x1, .ref 79] (mw_U s) = some (.inl (some (.int (nI 0))), mw_U (mw_pl t 79 0 (Int32.toInt64 v))) := by
  rw [b328, b328_0, e, mw_back_v, b328_7]
theorem w328_x1 {x1 : Int32} (e : mj_call X d 185 [.ref 0, .int x1] (mw_U s) = some (.inr 1, mw_U t)) : mj_call X (d + 1) 328 [.ref 0, .int x1, .ref 79] (mw_U s) = some (.inl (some (.int (nI 1))), mw_U t) := by
  rw [b328, b328_0, e]
  exact (mw_back_x (M := mw_M328) (by decide) (h := 12) (by decide +kernel) d328_12 ⟨(Nat.le_of_ble_eq_true rfl), rfl⟩ rfl).trans ((mj_q_iconst mw_m328 d328_13 mw_k_iconst_1).trans (mj_q_iret mw_m328 d328_14 rfl))
theorem d329_0 : decode method_20_code 0 = .ok (.aload_n 3, 1) := by decide +kernel
theorem d329_1 : decode method_20_code 1 = .ok (.iconst 0, 1) := by decide +kernel
theorem d329_2 : decode method_20_code 2 = .ok (.aload_n 0, 1) := by decide +kernel
theorem d329_3 : decode method_20_code 3 = .ok (.iload_n 1, 1) := by decide +kernel
theorem d329_4 : decode method_20_code 4 = .ok (.iload_n 2, 1) := by decide +kernel
theorem d329_5 : decode method_20_code 5 = .ok (.invokevirtual 69, 3) := by decide +kernel
theorem d329_8 : decode method_20_code 8 = .ok (.i2l, 1) := by decide +kernel
theorem d329_9 : decode method_20_code 9 = .ok (.lastore, 1) := by decide +kernel
theorem d329_10 : decode method_20_code 10 = .ok (.goto 7, 3) := by decide +kernel
theorem d329_13 : decode method_20_code 13 = .ok (.astore 4, 2) := by decide +kernel
theorem d329_15 : decode method_20_code 15 = .ok (.iconst 1, 1) := by decide +kernel
theorem d329_16 : decode method_20_code 16 = .ok (.ireturn, 1) := by decide +kernel
theorem d329_17 : decode method_20_code 17 = .ok (.iconst 0, 1) := by decide +kernel
theorem d329_18 : decode method_20_code 18 = .ok (.ireturn, 1) := by decide +kernel
theorem b329 {X : mj_X} {d : Nat} {w : mj_W} {x0 : Nat} {x1 : Int32} {x2 : Int32} {x3 : Nat} : mj_call X d 329 [.ref x0, .int x1, .int x2, .ref x3] w = mj_exec X d 329 0 [some (.ref x0), some (.int x1), some (.int x2), some (.ref x3), none] [] w := mw_ent mw_m329 (Nat.le_of_ble_eq_true rfl) rfl
theorem mw_p11_69 : mj_pool 11 69 = some (2, 186, 1) := by decide +kernel
theorem b329_0 {x1 x2 : Int32} : mj_exec X (d + 1) 329 0 [some (.ref 0), some (.int x1), some (.int x2), some (.ref 79), none] [] (mw_U s) = (mj_call X d 186 [.ref 0, .int x1, .int x2] (mw_U s)).bind (mj_back X (d + 1) 329 5 [some (.ref 0), some (.int x1), some (.int x2), some (.ref 79), none] [.int (nI 0), .ref 79] mw_M329) := (mj_q_aload_n mw_m329 d329_0 rfl (by decide)).trans ((mj_q_iconst mw_m329 d329_1 mw_k_iconst_0).trans ((mj_q_aload_n mw_m329 d329_2 rfl (by decide)).trans ((mj_q_iload_n mw_m329 d329_3 rfl).trans ((mj_q_iload_n mw_m329 d329_4 rfl).trans (mw_q_callvh mw_m329 d329_5 mw_p11_69 mw_m186 rfl rfl (Nat.le_of_ble_eq_true rfl) (Nat.le_of_ble_eq_true rfl) rfl (mw_rcv mw_c_0) rfl rfl)))))
theorem b329_8 {x1 x2 : Int32} {v : Int32} : mj_exec X d 329 8 [some (.ref 0), some (.int x1), some (.int x2), some (.ref 79), none] [.int v, .int (nI 0), .ref 79] (mw_U t) = some (.inl (some (.int (nI 0))), mw_U (mw_pl t 79 0 (Int32.toInt64 v))) := (mj_q_i2l mw_m329 d329_8).trans ((mw_q_last mw_m329 d329_9 mw_l_79 (by decide)).trans ((mj_q_goto mw_m329 d329_10 rfl).trans ((mj_q_iconst mw_m329 d329_17 mw_k_iconst_0).trans (mj_q_iret mw_m329 d329_18 rfl))))
theorem w329_v {x1 x2 : Int32} {v : Int32} (e : mj_call X d 186 [.ref 0, .int x1, .int x2] (mw_U s) = some (.inl (some (.int v)), mw_U t)) : mj_call X (d + 1) 329 [.ref 0, .int x1, .int x2, .ref 79] (mw_U s) = some (.inl (some (.int (nI 0))), mw_U (mw_pl t 79 0 (Int32.toInt64 v))) := by
  rw [b329, b329_0, e, mw_back_v, b329_8]
theorem w329_x0 {x1 x2 : Int32} (e : mj_call X d 186 [.ref 0, .int x1, .int x2] (mw_U s) = some (.inr 0, mw_U t)) : mj_call X (d + 1) 329 [.ref 0, .int x1, .int x2, .ref 79] (mw_U s) = some (.inl (some (.int (nI 1))), mw_U t) := by
  rw [b329, b329_0, e]
  exact (mw_back_y (M := mw_M329) (by decide) (h := 13) (by decide +kernel) d329_13 ⟨(Nat.le_of_ble_eq_true rfl), rfl⟩ rfl).trans ((mj_q_iconst mw_m329 d329_15 mw_k_iconst_1).trans (mj_q_iret mw_m329 d329_16 rfl))
theorem d330_0 : decode method_21_code 0 = .ok (.aload_n 2, 1) := by decide +kernel
theorem d330_1 : decode method_21_code 1 = .ok (.iconst 0, 1) := by decide +kernel
theorem d330_2 : decode method_21_code 2 = .ok (.aload_n 0, 1) := by decide +kernel
theorem d330_3 : decode method_21_code 3 = .ok (.iload_n 1, 1) := by decide +kernel
theorem d330_4 : decode method_21_code 4 = .ok (.invokevirtual 72, 3) := by decide +kernel
theorem d330_7 : decode method_21_code 7 = .ok (.i2l, 1) := by decide +kernel
theorem d330_8 : decode method_21_code 8 = .ok (.lastore, 1) := by decide +kernel
theorem d330_9 : decode method_21_code 9 = .ok (.goto 6, 3) := by decide +kernel
theorem d330_12 : decode method_21_code 12 = .ok (.astore_n 3, 1) := by decide +kernel
theorem d330_13 : decode method_21_code 13 = .ok (.iconst 1, 1) := by decide +kernel
theorem d330_14 : decode method_21_code 14 = .ok (.ireturn, 1) := by decide +kernel
theorem d330_15 : decode method_21_code 15 = .ok (.iconst 0, 1) := by decide +kernel
theorem d330_16 : decode method_21_code 16 = .ok (.ireturn, 1) := by decide +kernel
theorem b330 {X : mj_X} {d : Nat} {w : mj_W} {x0 : Nat} {x1 : Int32} {x2 : Nat} : mj_call X d 330 [.ref x0, .int x1, .ref x2] w = mj_exec X d 330 0 [some (.ref x0), some (.int x1), some (.ref x2), none] [] w := mw_ent mw_m330 (Nat.le_of_ble_eq_true rfl) rfl
theorem mw_p11_72 : mj_pool 11 72 = some (2, 187, 1) := by decide +kernel
theorem b330_0 {x1 : Int32} : mj_exec X (d + 1) 330 0 [some (.ref 0), some (.int x1), some (.ref 79), none] [] (mw_U s) = (mj_call X d 187 [.ref 0, .int x1] (mw_U s)).bind (mj_back X (d + 1) 330 4 [some (.ref 0), some (.int x1), some (.ref 79), none] [.int (nI 0), .ref 79] mw_M330) := (mj_q_aload_n mw_m330 d330_0 rfl (by decide)).trans ((mj_q_iconst mw_m330 d330_1 mw_k_iconst_0).trans ((mj_q_aload_n mw_m330 d330_2 rfl (by decide)).trans ((mj_q_iload_n mw_m330 d330_3 rfl).trans (mw_q_callvh mw_m330 d330_4 mw_p11_72 mw_m187 rfl rfl (Nat.le_of_ble_eq_true rfl) (Nat.le_of_ble_eq_true rfl) rfl (mw_rcv mw_c_0) rfl rfl))))
theorem b330_7 {x1 : Int32} {v : Int32} : mj_exec X d 330 7 [some (.ref 0), some (.int x1), some (.ref 79), none] [.int v, .int (nI 0), .ref 79] (mw_U t) = some (.inl (some (.int (nI 0))), mw_U (mw_pl t 79 0 (Int32.toInt64 v))) := (mj_q_i2l mw_m330 d330_7).trans ((mw_q_last mw_m330 d330_8 mw_l_79 (by decide)).trans ((mj_q_goto mw_m330 d330_9 rfl).trans ((mj_q_iconst mw_m330 d330_15 mw_k_iconst_0).trans (mj_q_iret mw_m330 d330_16 rfl))))
theorem w330_v {x1 : Int32} {v : Int32} (e : mj_call X d 187 [.ref 0, .int x1] (mw_U s) = some (.inl (some (.int v)), mw_U t)) : mj_call X (d + 1) 330 [.ref 0, .int x1, .ref 79] (mw_U s) = some (.inl (some (.int (nI 0))), mw_U (mw_pl t 79 0 (Int32.toInt64 v))) := by
  rw [b330, b330_0, e, mw_back_v, b330_7]
theorem w330_x0 {x1 : Int32} (e : mj_call X d 187 [.ref 0, .int x1] (mw_U s) = some (.inr 0, mw_U t)) : mj_call X (d + 1) 330 [.ref 0, .int x1, .ref 79] (mw_U s) = some (.inl (some (.int (nI 1))), mw_U t) := by
  rw [b330, b330_0, e]
  exact (mw_back_x (M := mw_M330) (by decide) (h := 12) (by decide +kernel) d330_12 ⟨(Nat.le_of_ble_eq_true rfl), rfl⟩ rfl).trans ((mj_q_iconst mw_m330 d330_13 mw_k_iconst_1).trans (mj_q_iret mw_m330 d330_14 rfl))
theorem d331_0 : decode method_22_code 0 = .ok (.aload 5, 2) := by decide +kernel
theorem d331_2 : decode method_22_code 2 = .ok (.iconst 0, 1) := by decide +kernel
theorem d331_3 : decode method_22_code 3 = .ok (.aload_n 0, 1) := by decide +kernel
theorem d331_4 : decode method_22_code 4 = .ok (.iload_n 1, 1) := by decide +kernel
theorem d331_5 : decode method_22_code 5 = .ok (.iload_n 2, 1) := by decide +kernel
theorem d331_6 : decode method_22_code 6 = .ok (.iload_n 3, 1) := by decide +kernel
theorem d331_7 : decode method_22_code 7 = .ok (.iload 4, 2) := by decide +kernel
theorem d331_9 : decode method_22_code 9 = .ok (.invokevirtual 75, 3) := by decide +kernel
theorem d331_12 : decode method_22_code 12 = .ok (.i2l, 1) := by decide +kernel
theorem d331_13 : decode method_22_code 13 = .ok (.lastore, 1) := by decide +kernel
theorem d331_14 : decode method_22_code 14 = .ok (.goto 7, 3) := by decide +kernel
theorem d331_17 : decode method_22_code 17 = .ok (.astore 6, 2) := by decide +kernel
theorem d331_19 : decode method_22_code 19 = .ok (.iconst 1, 1) := by decide +kernel
theorem d331_20 : decode method_22_code 20 = .ok (.ireturn, 1) := by decide +kernel
theorem d331_21 : decode method_22_code 21 = .ok (.iconst 0, 1) := by decide +kernel
theorem d331_22 : decode method_22_code 22 = .ok (.ireturn, 1) := by decide +kernel
theorem b331 {X : mj_X} {d : Nat} {w : mj_W} {x0 : Nat} {x1 : Int32} {x2 : Int32} {x3 : Int32} {x4 : Int32} {x5 : Nat} : mj_call X d 331 [.ref x0, .int x1, .int x2, .int x3, .int x4, .ref x5] w = mj_exec X d 331 0 [some (.ref x0), some (.int x1), some (.int x2), some (.int x3), some (.int x4), some (.ref x5), none] [] w := mw_ent mw_m331 (Nat.le_of_ble_eq_true rfl) rfl
theorem mw_p11_75 : mj_pool 11 75 = some (2, 188, 1) := by decide +kernel
theorem b331_0 {x1 x2 x3 x4 : Int32} : mj_exec X (d + 1) 331 0 [some (.ref 0), some (.int x1), some (.int x2), some (.int x3), some (.int x4), some (.ref 79), none] [] (mw_U s) = (mj_call X d 188 [.ref 0, .int x1, .int x2, .int x3, .int x4] (mw_U s)).bind (mj_back X (d + 1) 331 9 [some (.ref 0), some (.int x1), some (.int x2), some (.int x3), some (.int x4), some (.ref 79), none] [.int (nI 0), .ref 79] mw_M331) := (mj_q_aload mw_m331 d331_0 rfl (by decide)).trans ((mj_q_iconst mw_m331 d331_2 mw_k_iconst_0).trans ((mj_q_aload_n mw_m331 d331_3 rfl (by decide)).trans ((mj_q_iload_n mw_m331 d331_4 rfl).trans ((mj_q_iload_n mw_m331 d331_5 rfl).trans ((mj_q_iload_n mw_m331 d331_6 rfl).trans ((mj_q_iload mw_m331 d331_7 rfl).trans (mw_q_callvh mw_m331 d331_9 mw_p11_75 mw_m188 rfl rfl (Nat.le_of_ble_eq_true rfl) (Nat.le_of_ble_eq_true rfl) rfl (mw_rcv mw_c_0) rfl rfl)))))))
theorem b331_12 {x1 x2 x3 x4 : Int32} {v : Int32} : mj_exec X d 331 12 [some (.ref 0), some (.int x1), some (.int x2), some (.int x3), some (.int x4), some (.ref 79), none] [.int v, .int (nI 0), .ref 79] (mw_U t) = some (.inl (some (.int (nI 0))), mw_U (mw_pl t 79 0 (Int32.toInt64 v))) := (mj_q_i2l mw_m331 d331_12).trans ((mw_q_last mw_m331 d331_13 mw_l_79 (by decide)).trans ((mj_q_goto mw_m331 d331_14 rfl).trans ((mj_q_iconst mw_m331 d331_21 mw_k_iconst_0).trans (mj_q_iret mw_m331 d331_22 rfl))))
theorem w331_v {x1 x2 x3 x4 : Int32} {v : Int32} (e : mj_call X d 188 [.ref 0, .int x1, .int x2, .int x3, .int x4] (mw_U s) = some (.inl (some (.int v)), mw_U t)) : mj_call X (d + 1) 331 [.ref 0, .int x1, .int x2, .int x3, .int x4, .ref 79] (mw_U s) = some (.inl (some (.int (nI 0))), mw_U (mw_pl t 79 0 (Int32.toInt64 v))) := by
  rw [b331, b331_0, e, mw_back_v, b331_12]
theorem w331_x0 {x1 x2 x3 x4 : Int32} (e : mj_call X d 188 [.ref 0, .int x1, .int x2, .int x3, .int x4] (mw_U s) = some (.inr 0, mw_U t)) : mj_call X (d + 1) 331 [.ref 0, .int x1, .int x2, .int x3, .int x4, .ref 79] (mw_U s) = some (.inl (some (.int (nI 1))), mw_U t) := by
  rw [b331, b331_0, e]
  exact (mw_back_y (M := mw_M331) (by decide) (h := 17) (by decide +kernel) d331_17 ⟨(Nat.le_of_ble_eq_true rfl), rfl⟩ rfl).trans ((mj_q_iconst mw_m331 d331_19 mw_k_iconst_1).trans (mj_q_iret mw_m331 d331_20 rfl))
theorem d332_0 : decode method_23_code 0 = .ok (.aload_n 2, 1) := by decide +kernel
theorem d332_1 : decode method_23_code 1 = .ok (.iconst 0, 1) := by decide +kernel
theorem d332_2 : decode method_23_code 2 = .ok (.aload_n 0, 1) := by decide +kernel
theorem d332_3 : decode method_23_code 3 = .ok (.iload_n 1, 1) := by decide +kernel
theorem d332_4 : decode method_23_code 4 = .ok (.invokevirtual 78, 3) := by decide +kernel
theorem d332_7 : decode method_23_code 7 = .ok (.i2l, 1) := by decide +kernel
theorem d332_8 : decode method_23_code 8 = .ok (.lastore, 1) := by decide +kernel
theorem d332_9 : decode method_23_code 9 = .ok (.goto 6, 3) := by decide +kernel
theorem d332_12 : decode method_23_code 12 = .ok (.astore_n 3, 1) := by decide +kernel
theorem d332_13 : decode method_23_code 13 = .ok (.iconst 1, 1) := by decide +kernel
theorem d332_14 : decode method_23_code 14 = .ok (.ireturn, 1) := by decide +kernel
theorem d332_15 : decode method_23_code 15 = .ok (.iconst 0, 1) := by decide +kernel
theorem d332_16 : decode method_23_code 16 = .ok (.ireturn, 1) := by decide +kernel
theorem b332 {X : mj_X} {d : Nat} {w : mj_W} {x0 : Nat} {x1 : Int32} {x2 : Nat} : mj_call X d 332 [.ref x0, .int x1, .ref x2] w = mj_exec X d 332 0 [some (.ref x0), some (.int x1), some (.ref x2), none] [] w := mw_ent mw_m332 (Nat.le_of_ble_eq_true rfl) rfl
theorem mw_p11_78 : mj_pool 11 78 = some (2, 189, 1) := by decide +kernel
theorem b332_0 {x1 : Int32} : mj_exec X (d + 1) 332 0 [some (.ref 0), some (.int x1), some (.ref 79), none] [] (mw_U s) = (mj_call X d 189 [.ref 0, .int x1] (mw_U s)).bind (mj_back X (d + 1) 332 4 [some (.ref 0), some (.int x1), some (.ref 79), none] [.int (nI 0), .ref 79] mw_M332) := (mj_q_aload_n mw_m332 d332_0 rfl (by decide)).trans ((mj_q_iconst mw_m332 d332_1 mw_k_iconst_0).trans ((mj_q_aload_n mw_m332 d332_2 rfl (by decide)).trans ((mj_q_iload_n mw_m332 d332_3 rfl).trans (mw_q_callvh mw_m332 d332_4 mw_p11_78 mw_m189 rfl rfl (Nat.le_of_ble_eq_true rfl) (Nat.le_of_ble_eq_true rfl) rfl (mw_rcv mw_c_0) rfl rfl))))
theorem b332_7 {x1 : Int32} {v : Int32} : mj_exec X d 332 7 [some (.ref 0), some (.int x1), some (.ref 79), none] [.int v, .int (nI 0), .ref 79] (mw_U t) = some (.inl (some (.int (nI 0))), mw_U (mw_pl t 79 0 (Int32.toInt64 v))) := (mj_q_i2l mw_m332 d332_7).trans ((mw_q_last mw_m332 d332_8 mw_l_79 (by decide)).trans ((mj_q_goto mw_m332 d332_9 rfl).trans ((mj_q_iconst mw_m332 d332_15 mw_k_iconst_0).trans (mj_q_iret mw_m332 d332_16 rfl))))
theorem w332_v {x1 : Int32} {v : Int32} (e : mj_call X d 189 [.ref 0, .int x1] (mw_U s) = some (.inl (some (.int v)), mw_U t)) : mj_call X (d + 1) 332 [.ref 0, .int x1, .ref 79] (mw_U s) = some (.inl (some (.int (nI 0))), mw_U (mw_pl t 79 0 (Int32.toInt64 v))) := by
  rw [b332, b332_0, e, mw_back_v, b332_7]
theorem w332_x0 {x1 : Int32} (e : mj_call X d 189 [.ref 0, .int x1] (mw_U s) = some (.inr 0, mw_U t)) : mj_call X (d + 1) 332 [.ref 0, .int x1, .ref 79] (mw_U s) = some (.inl (some (.int (nI 1))), mw_U t) := by
  rw [b332, b332_0, e]
  exact (mw_back_x (M := mw_M332) (by decide) (h := 12) (by decide +kernel) d332_12 ⟨(Nat.le_of_ble_eq_true rfl), rfl⟩ rfl).trans ((mj_q_iconst mw_m332 d332_13 mw_k_iconst_1).trans (mj_q_iret mw_m332 d332_14 rfl))
theorem d333_0 : decode method_24_code 0 = .ok (.aload_n 2, 1) := by decide +kernel
theorem d333_1 : decode method_24_code 1 = .ok (.iconst 0, 1) := by decide +kernel
theorem d333_2 : decode method_24_code 2 = .ok (.aload_n 0, 1) := by decide +kernel
theorem d333_3 : decode method_24_code 3 = .ok (.iload_n 1, 1) := by decide +kernel
theorem d333_4 : decode method_24_code 4 = .ok (.invokevirtual 81, 3) := by decide +kernel
theorem d333_7 : decode method_24_code 7 = .ok (.i2l, 1) := by decide +kernel
theorem d333_8 : decode method_24_code 8 = .ok (.lastore, 1) := by decide +kernel
theorem d333_9 : decode method_24_code 9 = .ok (.goto 6, 3) := by decide +kernel
theorem d333_12 : decode method_24_code 12 = .ok (.astore_n 3, 1) := by decide +kernel
theorem d333_13 : decode method_24_code 13 = .ok (.iconst 1, 1) := by decide +kernel
theorem d333_14 : decode method_24_code 14 = .ok (.ireturn, 1) := by decide +kernel
theorem d333_15 : decode method_24_code 15 = .ok (.iconst 0, 1) := by decide +kernel
theorem d333_16 : decode method_24_code 16 = .ok (.ireturn, 1) := by decide +kernel
theorem b333 {X : mj_X} {d : Nat} {w : mj_W} {x0 : Nat} {x1 : Int32} {x2 : Nat} : mj_call X d 333 [.ref x0, .int x1, .ref x2] w = mj_exec X d 333 0 [some (.ref x0), some (.int x1), some (.ref x2), none] [] w := mw_ent mw_m333 (Nat.le_of_ble_eq_true rfl) rfl
theorem mw_p11_81 : mj_pool 11 81 = some (2, 190, 1) := by decide +kernel
theorem b333_0 {x1 : Int32} : mj_exec X (d + 1) 333 0 [some (.ref 0), some (.int x1), some (.ref 79), none] [] (mw_U s) = (mj_call X d 190 [.ref 0, .int x1] (mw_U s)).bind (mj_back X (d + 1) 333 4 [some (.ref 0), some (.int x1), some (.ref 79), none] [.int (nI 0), .ref 79] mw_M333) := (mj_q_aload_n mw_m333 d333_0 rfl (by decide)).trans ((mj_q_iconst mw_m333 d333_1 mw_k_iconst_0).trans ((mj_q_aload_n mw_m333 d333_2 rfl (by decide)).trans ((mj_q_iload_n mw_m333 d333_3 rfl).trans (mw_q_callvh mw_m333 d333_4 mw_p11_81 mw_m190 rfl rfl (Nat.le_of_ble_eq_true rfl) (Nat.le_of_ble_eq_true rfl) rfl (mw_rcv mw_c_0) rfl rfl))))
theorem b333_7 {x1 : Int32} {v : Int32} : mj_exec X d 333 7 [some (.ref 0), some (.int x1), some (.ref 79), none] [.int v, .int (nI 0), .ref 79] (mw_U t) = some (.inl (some (.int (nI 0))), mw_U (mw_pl t 79 0 (Int32.toInt64 v))) := (mj_q_i2l mw_m333 d333_7).trans ((mw_q_last mw_m333 d333_8 mw_l_79 (by decide)).trans ((mj_q_goto mw_m333 d333_9 rfl).trans ((mj_q_iconst mw_m333 d333_15 mw_k_iconst_0).trans (mj_q_iret mw_m333 d333_16 rfl))))
theorem w333_v {x1 : Int32} {v : Int32} (e : mj_call X d 190 [.ref 0, .int x1] (mw_U s) = some (.inl (some (.int v)), mw_U t)) : mj_call X (d + 1) 333 [.ref 0, .int x1, .ref 79] (mw_U s) = some (.inl (some (.int (nI 0))), mw_U (mw_pl t 79 0 (Int32.toInt64 v))) := by
  rw [b333, b333_0, e, mw_back_v, b333_7]
theorem w333_x0 {x1 : Int32} (e : mj_call X d 190 [.ref 0, .int x1] (mw_U s) = some (.inr 0, mw_U t)) : mj_call X (d + 1) 333 [.ref 0, .int x1, .ref 79] (mw_U s) = some (.inl (some (.int (nI 1))), mw_U t) := by
  rw [b333, b333_0, e]
  exact (mw_back_x (M := mw_M333) (by decide) (h := 12) (by decide +kernel) d333_12 ⟨(Nat.le_of_ble_eq_true rfl), rfl⟩ rfl).trans ((mj_q_iconst mw_m333 d333_13 mw_k_iconst_1).trans (mj_q_iret mw_m333 d333_14 rfl))
theorem d334_0 : decode method_25_code 0 = .ok (.aload 4, 2) := by decide +kernel
theorem d334_2 : decode method_25_code 2 = .ok (.iconst 0, 1) := by decide +kernel
theorem d334_3 : decode method_25_code 3 = .ok (.aload_n 0, 1) := by decide +kernel
theorem d334_4 : decode method_25_code 4 = .ok (.iload_n 1, 1) := by decide +kernel
theorem d334_5 : decode method_25_code 5 = .ok (.iload_n 2, 1) := by decide +kernel
theorem d334_6 : decode method_25_code 6 = .ok (.iload_n 3, 1) := by decide +kernel
theorem d334_7 : decode method_25_code 7 = .ok (.invokevirtual 84, 3) := by decide +kernel
theorem d334_10 : decode method_25_code 10 = .ok (.i2l, 1) := by decide +kernel
theorem d334_11 : decode method_25_code 11 = .ok (.lastore, 1) := by decide +kernel
theorem d334_12 : decode method_25_code 12 = .ok (.goto 11, 3) := by decide +kernel
theorem d334_15 : decode method_25_code 15 = .ok (.astore 5, 2) := by decide +kernel
theorem d334_17 : decode method_25_code 17 = .ok (.iconst 1, 1) := by decide +kernel
theorem d334_18 : decode method_25_code 18 = .ok (.ireturn, 1) := by decide +kernel
theorem d334_19 : decode method_25_code 19 = .ok (.astore 5, 2) := by decide +kernel
theorem d334_21 : decode method_25_code 21 = .ok (.iconst 2, 1) := by decide +kernel
theorem d334_22 : decode method_25_code 22 = .ok (.ireturn, 1) := by decide +kernel
theorem d334_23 : decode method_25_code 23 = .ok (.iconst 0, 1) := by decide +kernel
theorem d334_24 : decode method_25_code 24 = .ok (.ireturn, 1) := by decide +kernel
theorem b334 {X : mj_X} {d : Nat} {w : mj_W} {x0 : Nat} {x1 : Int32} {x2 : Int32} {x3 : Int32} {x4 : Nat} : mj_call X d 334 [.ref x0, .int x1, .int x2, .int x3, .ref x4] w = mj_exec X d 334 0 [some (.ref x0), some (.int x1), some (.int x2), some (.int x3), some (.ref x4), none] [] w := mw_ent mw_m334 (Nat.le_of_ble_eq_true rfl) rfl
theorem mw_p11_84 : mj_pool 11 84 = some (2, 191, 1) := by decide +kernel
theorem b334_0 {x1 x2 x3 : Int32} : mj_exec X (d + 1) 334 0 [some (.ref 0), some (.int x1), some (.int x2), some (.int x3), some (.ref 79), none] [] (mw_U s) = (mj_call X d 191 [.ref 0, .int x1, .int x2, .int x3] (mw_U s)).bind (mj_back X (d + 1) 334 7 [some (.ref 0), some (.int x1), some (.int x2), some (.int x3), some (.ref 79), none] [.int (nI 0), .ref 79] mw_M334) := (mj_q_aload mw_m334 d334_0 rfl (by decide)).trans ((mj_q_iconst mw_m334 d334_2 mw_k_iconst_0).trans ((mj_q_aload_n mw_m334 d334_3 rfl (by decide)).trans ((mj_q_iload_n mw_m334 d334_4 rfl).trans ((mj_q_iload_n mw_m334 d334_5 rfl).trans ((mj_q_iload_n mw_m334 d334_6 rfl).trans (mw_q_callvh mw_m334 d334_7 mw_p11_84 mw_m191 rfl rfl (Nat.le_of_ble_eq_true rfl) (Nat.le_of_ble_eq_true rfl) rfl (mw_rcv mw_c_0) rfl rfl))))))
theorem b334_10 {x1 x2 x3 : Int32} {v : Int32} : mj_exec X d 334 10 [some (.ref 0), some (.int x1), some (.int x2), some (.int x3), some (.ref 79), none] [.int v, .int (nI 0), .ref 79] (mw_U t) = some (.inl (some (.int (nI 0))), mw_U (mw_pl t 79 0 (Int32.toInt64 v))) := (mj_q_i2l mw_m334 d334_10).trans ((mw_q_last mw_m334 d334_11 mw_l_79 (by decide)).trans ((mj_q_goto mw_m334 d334_12 rfl).trans ((mj_q_iconst mw_m334 d334_23 mw_k_iconst_0).trans (mj_q_iret mw_m334 d334_24 rfl))))
theorem w334_v {x1 x2 x3 : Int32} {v : Int32} (e : mj_call X d 191 [.ref 0, .int x1, .int x2, .int x3] (mw_U s) = some (.inl (some (.int v)), mw_U t)) : mj_call X (d + 1) 334 [.ref 0, .int x1, .int x2, .int x3, .ref 79] (mw_U s) = some (.inl (some (.int (nI 0))), mw_U (mw_pl t 79 0 (Int32.toInt64 v))) := by
  rw [b334, b334_0, e, mw_back_v, b334_10]
theorem w334_x0 {x1 x2 x3 : Int32} (e : mj_call X d 191 [.ref 0, .int x1, .int x2, .int x3] (mw_U s) = some (.inr 0, mw_U t)) : mj_call X (d + 1) 334 [.ref 0, .int x1, .int x2, .int x3, .ref 79] (mw_U s) = some (.inl (some (.int (nI 1))), mw_U t) := by
  rw [b334, b334_0, e]
  exact (mw_back_y (M := mw_M334) (by decide) (h := 15) (by decide +kernel) d334_15 ⟨(Nat.le_of_ble_eq_true rfl), rfl⟩ rfl).trans ((mj_q_iconst mw_m334 d334_17 mw_k_iconst_1).trans (mj_q_iret mw_m334 d334_18 rfl))
theorem w334_x1 {x1 x2 x3 : Int32} (e : mj_call X d 191 [.ref 0, .int x1, .int x2, .int x3] (mw_U s) = some (.inr 1, mw_U t)) : mj_call X (d + 1) 334 [.ref 0, .int x1, .int x2, .int x3, .ref 79] (mw_U s) = some (.inl (some (.int (nI 2))), mw_U t) := by
  rw [b334, b334_0, e]
  exact (mw_back_y (M := mw_M334) (by decide) (h := 19) (by decide +kernel) d334_19 ⟨(Nat.le_of_ble_eq_true rfl), rfl⟩ rfl).trans ((mj_q_iconst mw_m334 d334_21 mw_k_iconst_2).trans (mj_q_iret mw_m334 d334_22 rfl))
theorem d335_0 : decode method_26_code 0 = .ok (.aload 4, 2) := by decide +kernel
theorem d335_2 : decode method_26_code 2 = .ok (.iconst 0, 1) := by decide +kernel
theorem d335_3 : decode method_26_code 3 = .ok (.aload_n 0, 1) := by decide +kernel
theorem d335_4 : decode method_26_code 4 = .ok (.iload_n 1, 1) := by decide +kernel
theorem d335_5 : decode method_26_code 5 = .ok (.iload_n 2, 1) := by decide +kernel
theorem d335_6 : decode method_26_code 6 = .ok (.iload_n 3, 1) := by decide +kernel
theorem d335_7 : decode method_26_code 7 = .ok (.invokevirtual 87, 3) := by decide +kernel
theorem d335_10 : decode method_26_code 10 = .ok (.i2l, 1) := by decide +kernel
theorem d335_11 : decode method_26_code 11 = .ok (.lastore, 1) := by decide +kernel
theorem d335_12 : decode method_26_code 12 = .ok (.goto 11, 3) := by decide +kernel
theorem d335_15 : decode method_26_code 15 = .ok (.astore 5, 2) := by decide +kernel
theorem d335_17 : decode method_26_code 17 = .ok (.iconst 1, 1) := by decide +kernel
theorem d335_18 : decode method_26_code 18 = .ok (.ireturn, 1) := by decide +kernel
theorem d335_19 : decode method_26_code 19 = .ok (.astore 5, 2) := by decide +kernel
theorem d335_21 : decode method_26_code 21 = .ok (.iconst 2, 1) := by decide +kernel
theorem d335_22 : decode method_26_code 22 = .ok (.ireturn, 1) := by decide +kernel
theorem d335_23 : decode method_26_code 23 = .ok (.iconst 0, 1) := by decide +kernel
theorem d335_24 : decode method_26_code 24 = .ok (.ireturn, 1) := by decide +kernel
theorem b335 {X : mj_X} {d : Nat} {w : mj_W} {x0 : Nat} {x1 : Int32} {x2 : Int32} {x3 : Int32} {x4 : Nat} : mj_call X d 335 [.ref x0, .int x1, .int x2, .int x3, .ref x4] w = mj_exec X d 335 0 [some (.ref x0), some (.int x1), some (.int x2), some (.int x3), some (.ref x4), none] [] w := mw_ent mw_m335 (Nat.le_of_ble_eq_true rfl) rfl
theorem mw_p11_87 : mj_pool 11 87 = some (2, 192, 1) := by decide +kernel
theorem b335_0 {x1 x2 x3 : Int32} : mj_exec X (d + 1) 335 0 [some (.ref 0), some (.int x1), some (.int x2), some (.int x3), some (.ref 79), none] [] (mw_U s) = (mj_call X d 192 [.ref 0, .int x1, .int x2, .int x3] (mw_U s)).bind (mj_back X (d + 1) 335 7 [some (.ref 0), some (.int x1), some (.int x2), some (.int x3), some (.ref 79), none] [.int (nI 0), .ref 79] mw_M335) := (mj_q_aload mw_m335 d335_0 rfl (by decide)).trans ((mj_q_iconst mw_m335 d335_2 mw_k_iconst_0).trans ((mj_q_aload_n mw_m335 d335_3 rfl (by decide)).trans ((mj_q_iload_n mw_m335 d335_4 rfl).trans ((mj_q_iload_n mw_m335 d335_5 rfl).trans ((mj_q_iload_n mw_m335 d335_6 rfl).trans (mw_q_callvh mw_m335 d335_7 mw_p11_87 mw_m192 rfl rfl (Nat.le_of_ble_eq_true rfl) (Nat.le_of_ble_eq_true rfl) rfl (mw_rcv mw_c_0) rfl rfl))))))
theorem b335_10 {x1 x2 x3 : Int32} {v : Int32} : mj_exec X d 335 10 [some (.ref 0), some (.int x1), some (.int x2), some (.int x3), some (.ref 79), none] [.int v, .int (nI 0), .ref 79] (mw_U t) = some (.inl (some (.int (nI 0))), mw_U (mw_pl t 79 0 (Int32.toInt64 v))) := (mj_q_i2l mw_m335 d335_10).trans ((mw_q_last mw_m335 d335_11 mw_l_79 (by decide)).trans ((mj_q_goto mw_m335 d335_12 rfl).trans ((mj_q_iconst mw_m335 d335_23 mw_k_iconst_0).trans (mj_q_iret mw_m335 d335_24 rfl))))
theorem w335_v {x1 x2 x3 : Int32} {v : Int32} (e : mj_call X d 192 [.ref 0, .int x1, .int x2, .int x3] (mw_U s) = some (.inl (some (.int v)), mw_U t)) : mj_call X (d + 1) 335 [.ref 0, .int x1, .int x2, .int x3, .ref 79] (mw_U s) = some (.inl (some (.int (nI 0))), mw_U (mw_pl t 79 0 (Int32.toInt64 v))) := by
  rw [b335, b335_0, e, mw_back_v, b335_10]
theorem w335_x0 {x1 x2 x3 : Int32} (e : mj_call X d 192 [.ref 0, .int x1, .int x2, .int x3] (mw_U s) = some (.inr 0, mw_U t)) : mj_call X (d + 1) 335 [.ref 0, .int x1, .int x2, .int x3, .ref 79] (mw_U s) = some (.inl (some (.int (nI 1))), mw_U t) := by
  rw [b335, b335_0, e]
  exact (mw_back_y (M := mw_M335) (by decide) (h := 15) (by decide +kernel) d335_15 ⟨(Nat.le_of_ble_eq_true rfl), rfl⟩ rfl).trans ((mj_q_iconst mw_m335 d335_17 mw_k_iconst_1).trans (mj_q_iret mw_m335 d335_18 rfl))
theorem w335_x1 {x1 x2 x3 : Int32} (e : mj_call X d 192 [.ref 0, .int x1, .int x2, .int x3] (mw_U s) = some (.inr 1, mw_U t)) : mj_call X (d + 1) 335 [.ref 0, .int x1, .int x2, .int x3, .ref 79] (mw_U s) = some (.inl (some (.int (nI 2))), mw_U t) := by
  rw [b335, b335_0, e]
  exact (mw_back_y (M := mw_M335) (by decide) (h := 19) (by decide +kernel) d335_19 ⟨(Nat.le_of_ble_eq_true rfl), rfl⟩ rfl).trans ((mj_q_iconst mw_m335 d335_21 mw_k_iconst_2).trans (mj_q_iret mw_m335 d335_22 rfl))
end
