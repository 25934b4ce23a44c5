/-! the methods of WivesQuarrels$Circle, WivesQuarrels$Guesses, WivesQuarrels$Fate, WivesQuarrels$Game, run by run: printed by wip/whole/gen30.py -/
/-- WivesQuarrels$Circle.gather -/
theorem d15_0 : decode prog_3_method_2_code 0 = .ok (.aload_n 0, 1) := by decide +kernel
theorem d15_1 : decode prog_3_method_2_code 1 = .ok (.aload_n 1, 1) := by decide +kernel
theorem d15_2 : decode prog_3_method_2_code 2 = .ok (.invokevirtual 22, 3) := by decide +kernel
theorem d15_5 : decode prog_3_method_2_code 5 = .ok (.putfield 18, 3) := by decide +kernel
theorem d15_8 : decode prog_3_method_2_code 8 = .ok (.iconst 0, 1) := by decide +kernel
theorem d15_9 : decode prog_3_method_2_code 9 = .ok (.istore_n 2, 1) := by decide +kernel
theorem d15_10 : decode prog_3_method_2_code 10 = .ok (.iload_n 2, 1) := by decide +kernel
theorem d15_11 : decode prog_3_method_2_code 11 = .ok (.bipush 8, 2) := by decide +kernel
theorem d15_13 : decode prog_3_method_2_code 13 = .ok (.if_icmp .ge 20, 3) := by decide +kernel
theorem d15_16 : decode prog_3_method_2_code 16 = .ok (.aload_n 0, 1) := by decide +kernel
theorem d15_17 : decode prog_3_method_2_code 17 = .ok (.getfield 9, 3) := by decide +kernel
theorem d15_20 : decode prog_3_method_2_code 20 = .ok (.iload_n 2, 1) := by decide +kernel
theorem d15_21 : decode prog_3_method_2_code 21 = .ok (.aload_n 1, 1) := by decide +kernel
theorem d15_22 : decode prog_3_method_2_code 22 = .ok (.iload_n 2, 1) := by decide +kernel
theorem d15_23 : decode prog_3_method_2_code 23 = .ok (.invokevirtual 27, 3) := by decide +kernel
theorem d15_26 : decode prog_3_method_2_code 26 = .ok (.iastore, 1) := by decide +kernel
theorem d15_27 : decode prog_3_method_2_code 27 = .ok (.iinc 2 1, 3) := by decide +kernel
theorem d15_30 : decode prog_3_method_2_code 30 = .ok (.goto (-20), 3) := by decide +kernel
theorem d15_33 : decode prog_3_method_2_code 33 = .ok (.return_, 1) := by decide +kernel
theorem b15 {X : mj_X} {d : Nat} {w : mj_W} {x0 : Nat} {x1 : Nat} : mj_call X d 15 [.ref x0, .ref x1] w = mj_exec X d 15 0 [some (.ref x0), some (.ref x1), none] [] w := mw_ent mw_m15 (Nat.le_of_ble_eq_true rfl) rfl
theorem b15_0 {X : mj_X} {d : Nat} {s : mw_S} {k1 : Nat} {l2 : Option Value} (h1 : mw_cl k1 = some 3) : mj_exec X (d + 1) 15 0 [some (.ref 31), some (.ref k1), l2] [] (mw_U s) = (mj_call X d 49 [.ref k1] (mw_U s)).bind (mj_bk X (d + 1) 15 5 [some (.ref 31), some (.ref k1), l2] [.ref 31]) := (mj_q_aload_n mw_m15 d15_0 rfl (by decide)).trans ((mj_q_aload_n mw_m15 d15_1 rfl (mw_neo h1)).trans (mw_q_callv mw_m15 rfl d15_2 mw_p1_22 mw_m49 rfl rfl (Nat.le_of_ble_eq_true rfl) (Nat.le_of_ble_eq_true rfl) rfl (mw_rcv h1) rfl rfl))
theorem b15_5 {X : mj_X} {d : Nat} {s : mw_S} {k1 : Nat} {l2 : Option Value} {xs1 : Int32} (h1 : mw_cl k1 = some 3) : mj_exec X d 15 5 [some (.ref 31), some (.ref k1), l2] [.int xs1, .ref 31] (mw_U s) = mj_exec X d 15 10 [some (.ref 31), some (.ref k1), some (.int (nI 0))] [] (mw_U (mw_p s 31 2 xs1)) := (mw_q_puti mw_m15 d15_5 mw_p1_18 mw_c_31 mw_f_31_2 (by decide) rfl (.inl rfl)).trans ((mj_q_iconst mw_m15 d15_8 mw_k_iconst_0).trans (mj_q_istore_n mw_m15 d15_9 (Nat.le_of_ble_eq_true rfl) rfl rfl))
theorem b15_10 {X : mj_X} {d : Nat} {s : mw_S} {k1 : Nat} {x2 : Int32} (h1 : mw_cl k1 = some 3) : mj_exec X d 15 10 [some (.ref 31), some (.ref k1), some (.int x2)] [] (mw_U s) = if (nI 8) ≤ x2 then mj_exec X d 15 33 [some (.ref 31), some (.ref k1), some (.int x2)] [] (mw_U s) else mj_exec X d 15 16 [some (.ref 31), some (.ref k1), some (.int x2)] [] (mw_U s) := (mj_q_iload_n mw_m15 d15_10 rfl).trans ((mj_q_bipush mw_m15 d15_11 mw_k_bipush_8).trans (mj_q_icmp_ge mw_m15 d15_13 rfl))
theorem b15_16 {X : mj_X} {d : Nat} {s : mw_S} {k1 : Nat} {x2 : Int32} (h1 : mw_cl k1 = some 3) : mj_exec X (d + 1) 15 16 [some (.ref 31), some (.ref k1), some (.int x2)] [] (mw_U s) = (mj_call X d 40 [.ref k1, .int x2] (mw_U s)).bind (mj_bk X (d + 1) 15 26 [some (.ref 31), some (.ref k1), some (.int x2)] [.int x2, .ref 32]) := (mj_q_aload_n mw_m15 d15_16 rfl (by decide)).trans ((mw_q_getr mw_m15 d15_17 mw_p1_9 mw_c_31 mw_f_31_0).trans ((mj_q_iload_n mw_m15 d15_20 rfl).trans ((mj_q_aload_n mw_m15 d15_21 rfl (mw_neo h1)).trans ((mj_q_iload_n mw_m15 d15_22 rfl).trans (mw_q_callv mw_m15 rfl d15_23 mw_p1_27 mw_m40 rfl rfl (Nat.le_of_ble_eq_true rfl) (Nat.le_of_ble_eq_true rfl) rfl (mw_rcv h1) rfl rfl)))))
theorem b15_26 {X : mj_X} {d : Nat} {s : mw_S} {k1 : Nat} {x2 : Int32} {ks0 : Nat} {ns0 : Nat} {xs1 : Int32} {xs2 : Int32} (h1 : mw_cl k1 = some 3) (hs0 : mw_rw ks0 = some (.int, ns0)) : mj_exec X d 15 26 [some (.ref 31), some (.ref k1), some (.int x2)] [.int xs2, .int xs1, .ref ks0] (mw_U s) = if mw_in ns0 xs1 = true then mj_exec X d 15 10 [some (.ref 31), some (.ref k1), some (.int (x2 + (nI 1)))] [] (mw_U (mw_p s ks0 (xs1).toNatClampNeg xs2)) else none := (mw_h_iast mw_m15 d15_26 hs0).trans (mw_g ((mj_q_iinc mw_m15 d15_27 rfl (Nat.le_of_ble_eq_true rfl) rfl mw_k_iconst_1 rfl).trans (mj_q_goto mw_m15 d15_30 rfl)))
theorem b15_33 {X : mj_X} {d : Nat} {s : mw_S} {k1 : Nat} {x2 : Int32} (h1 : mw_cl k1 = some 3) : mj_exec X d 15 33 [some (.ref 31), some (.ref k1), some (.int x2)] [] (mw_U s) = some (.inl none, mw_U s) := mj_q_vret mw_m15 d15_33 rfl
/-- WivesQuarrels$Circle.oneCamp -/
theorem d16_0 : decode prog_3_method_9_code 0 = .ok (.iconst 0, 1) := by decide +kernel
theorem d16_1 : decode prog_3_method_9_code 1 = .ok (.istore_n 1, 1) := by decide +kernel
theorem d16_2 : decode prog_3_method_9_code 2 = .ok (.iconst 0, 1) := by decide +kernel
theorem d16_3 : decode prog_3_method_9_code 3 = .ok (.istore_n 2, 1) := by decide +kernel
theorem d16_4 : decode prog_3_method_9_code 4 = .ok (.iconst 0, 1) := by decide +kernel
theorem d16_5 : decode prog_3_method_9_code 5 = .ok (.istore_n 3, 1) := by decide +kernel
theorem d16_6 : decode prog_3_method_9_code 6 = .ok (.iload_n 3, 1) := by decide +kernel
theorem d16_7 : decode prog_3_method_9_code 7 = .ok (.bipush 8, 2) := by decide +kernel
theorem d16_9 : decode prog_3_method_9_code 9 = .ok (.if_icmp .ge 64, 3) := by decide +kernel
theorem d16_12 : decode prog_3_method_9_code 12 = .ok (.iload_n 3, 1) := by decide +kernel
theorem d16_13 : decode prog_3_method_9_code 13 = .ok (.aload_n 0, 1) := by decide +kernel
theorem d16_14 : decode prog_3_method_9_code 14 = .ok (.getfield 18, 3) := by decide +kernel
theorem d16_17 : decode prog_3_method_9_code 17 = .ok (.iload_n 1, 1) := by decide +kernel
theorem d16_18 : decode prog_3_method_9_code 18 = .ok (.iload_n 2, 1) := by decide +kernel
theorem d16_19 : decode prog_3_method_9_code 19 = .ok (.ior, 1) := by decide +kernel
theorem d16_20 : decode prog_3_method_9_code 20 = .ok (.iconst (-1), 1) := by decide +kernel
theorem d16_21 : decode prog_3_method_9_code 21 = .ok (.ixor, 1) := by decide +kernel
theorem d16_22 : decode prog_3_method_9_code 22 = .ok (.iand, 1) := by decide +kernel
theorem d16_23 : decode prog_3_method_9_code 23 = .ok (.invokestatic 30, 3) := by decide +kernel
theorem d16_26 : decode prog_3_method_9_code 26 = .ok (.ifCond .eq 41, 3) := by decide +kernel
theorem d16_29 : decode prog_3_method_9_code 29 = .ok (.iload_n 1, 1) := by decide +kernel
theorem d16_30 : decode prog_3_method_9_code 30 = .ok (.iconst 1, 1) := by decide +kernel
theorem d16_31 : decode prog_3_method_9_code 31 = .ok (.iload_n 3, 1) := by decide +kernel
theorem d16_32 : decode prog_3_method_9_code 32 = .ok (.ishl, 1) := by decide +kernel
theorem d16_33 : decode prog_3_method_9_code 33 = .ok (.ior, 1) := by decide +kernel
theorem d16_34 : decode prog_3_method_9_code 34 = .ok (.istore_n 1, 1) := by decide +kernel
theorem d16_35 : decode prog_3_method_9_code 35 = .ok (.iconst 0, 1) := by decide +kernel
theorem d16_36 : decode prog_3_method_9_code 36 = .ok (.istore 4, 2) := by decide +kernel
theorem d16_38 : decode prog_3_method_9_code 38 = .ok (.iload 4, 2) := by decide +kernel
theorem d16_40 : decode prog_3_method_9_code 40 = .ok (.bipush 8, 2) := by decide +kernel
theorem d16_42 : decode prog_3_method_9_code 42 = .ok (.if_icmp .ge 25, 3) := by decide +kernel
theorem d16_45 : decode prog_3_method_9_code 45 = .ok (.iload_n 2, 1) := by decide +kernel
theorem d16_46 : decode prog_3_method_9_code 46 = .ok (.aload_n 0, 1) := by decide +kernel
theorem d16_47 : decode prog_3_method_9_code 47 = .ok (.iload_n 1, 1) := by decide +kernel
theorem d16_48 : decode prog_3_method_9_code 48 = .ok (.invokevirtual 34, 3) := by decide +kernel
theorem d16_51 : decode prog_3_method_9_code 51 = .ok (.ior, 1) := by decide +kernel
theorem d16_52 : decode prog_3_method_9_code 52 = .ok (.istore_n 2, 1) := by decide +kernel
theorem d16_53 : decode prog_3_method_9_code 53 = .ok (.iload_n 1, 1) := by decide +kernel
theorem d16_54 : decode prog_3_method_9_code 54 = .ok (.aload_n 0, 1) := by decide +kernel
theorem d16_55 : decode prog_3_method_9_code 55 = .ok (.iload_n 2, 1) := by decide +kernel
theorem d16_56 : decode prog_3_method_9_code 56 = .ok (.invokevirtual 34, 3) := by decide +kernel
theorem d16_59 : decode prog_3_method_9_code 59 = .ok (.ior, 1) := by decide +kernel
theorem d16_60 : decode prog_3_method_9_code 60 = .ok (.istore_n 1, 1) := by decide +kernel
theorem d16_61 : decode prog_3_method_9_code 61 = .ok (.iinc 4 1, 3) := by decide +kernel
theorem d16_64 : decode prog_3_method_9_code 64 = .ok (.goto (-26), 3) := by decide +kernel
theorem d16_67 : decode prog_3_method_9_code 67 = .ok (.iinc 3 1, 3) := by decide +kernel
theorem d16_70 : decode prog_3_method_9_code 70 = .ok (.goto (-64), 3) := by decide +kernel
theorem d16_73 : decode prog_3_method_9_code 73 = .ok (.iload_n 1, 1) := by decide +kernel
theorem d16_74 : decode prog_3_method_9_code 74 = .ok (.iload_n 2, 1) := by decide +kernel
theorem d16_75 : decode prog_3_method_9_code 75 = .ok (.iand, 1) := by decide +kernel
theorem d16_76 : decode prog_3_method_9_code 76 = .ok (.ifCond .ne 7, 3) := by decide +kernel
theorem d16_79 : decode prog_3_method_9_code 79 = .ok (.iload_n 1, 1) := by decide +kernel
theorem d16_80 : decode prog_3_method_9_code 80 = .ok (.goto 4, 3) := by decide +kernel
theorem d16_83 : decode prog_3_method_9_code 83 = .ok (.iconst (-1), 1) := by decide +kernel
theorem d16_84 : decode prog_3_method_9_code 84 = .ok (.ireturn, 1) := by decide +kernel
theorem b16 {X : mj_X} {d : Nat} {w : mj_W} {x0 : Nat} : mj_call X d 16 [.ref x0] w = mj_exec X d 16 0 [some (.ref x0), none, none, none, none] [] w := mw_ent mw_m16 (Nat.le_of_ble_eq_true rfl) rfl
theorem b16_0 {X : mj_X} {d : Nat} {s : mw_S} {l1 : Option Value} {l2 : Option Value} {l3 : Option Value} {l4 : Option Value}  : mj_exec X d 16 0 [some (.ref 31), l1, l2, l3, l4] [] (mw_U s) = mj_exec X d 16 6 [some (.ref 31), some (.int (nI 0)), some (.int (nI 0)), some (.int (nI 0)), l4] [] (mw_U s) := (mj_q_iconst mw_m16 d16_0 mw_k_iconst_0).trans ((mj_q_istore_n mw_m16 d16_1 (Nat.le_of_ble_eq_true rfl) rfl rfl).trans ((mj_q_iconst mw_m16 d16_2 mw_k_iconst_0).trans ((mj_q_istore_n mw_m16 d16_3 (Nat.le_of_ble_eq_true rfl) rfl rfl).trans ((mj_q_iconst mw_m16 d16_4 mw_k_iconst_0).trans (mj_q_istore_n mw_m16 d16_5 (Nat.le_of_ble_eq_true rfl) rfl rfl)))))
theorem b16_6 {X : mj_X} {d : Nat} {s : mw_S} {x1 : Int32} {x2 : Int32} {x3 : Int32} {l4 : Option Value}  : mj_exec X d 16 6 [some (.ref 31), some (.int x1), some (.int x2), some (.int x3), l4] [] (mw_U s) = if (nI 8) ≤ x3 then mj_exec X d 16 73 [some (.ref 31), some (.int x1), some (.int x2), some (.int x3), l4] [] (mw_U s) else mj_exec X d 16 12 [some (.ref 31), some (.int x1), some (.int x2), some (.int x3), l4] [] (mw_U s) := (mj_q_iload_n mw_m16 d16_6 rfl).trans ((mj_q_bipush mw_m16 d16_7 mw_k_bipush_8).trans (mj_q_icmp_ge mw_m16 d16_9 rfl))
theorem b16_12 {X : mj_X} {d : Nat} {s : mw_S} {x1 : Int32} {x2 : Int32} {x3 : Int32} {l4 : Option Value}  : mj_exec X (d + 1) 16 12 [some (.ref 31), some (.int x1), some (.int x2), some (.int x3), l4] [] (mw_U s) = (mj_call X d 149 [.int x3, .int ((s.1 31 2) &&& ((x1 ||| x2) ^^^ (-1)))] (mw_U s)).bind (mj_bk X (d + 1) 16 26 [some (.ref 31), some (.int x1), some (.int x2), some (.int x3), l4] []) := (mj_q_iload_n mw_m16 d16_12 rfl).trans ((mj_q_aload_n mw_m16 d16_13 rfl (by decide)).trans ((mw_q_geti mw_m16 d16_14 mw_p1_18 mw_c_31 mw_f_31_2).trans ((mj_q_iload_n mw_m16 d16_17 rfl).trans ((mj_q_iload_n mw_m16 d16_18 rfl).trans ((mj_q_ior mw_m16 d16_19).trans ((mj_q_iconst mw_m16 d16_20 mw_k_iconst_m1).trans ((mj_q_ixor mw_m16 d16_21).trans ((mj_q_iand mw_m16 d16_22).trans (mw_q_calln mw_m16 rfl d16_23 mw_p1_30 mw_m149 rfl rfl (Nat.le_of_ble_eq_true rfl) (Nat.le_of_ble_eq_true rfl) rfl rfl)))))))))
theorem b16_26 {X : mj_X} {d : Nat} {s : mw_S} {x1 : Int32} {x2 : Int32} {x3 : Int32} {l4 : Option Value} {xs0 : Int32}  : mj_exec X d 16 26 [some (.ref 31), some (.int x1), some (.int x2), some (.int x3), l4] [.int xs0] (mw_U s) = if xs0 = 0 then mj_exec X d 16 67 [some (.ref 31), some (.int x1), some (.int x2), some (.int x3), l4] [] (mw_U s) else mj_exec X d 16 29 [some (.ref 31), some (.int x1), some (.int x2), some (.int x3), l4] [] (mw_U s) := mj_q_if_eq mw_m16 d16_26 rfl
theorem b16_29 {X : mj_X} {d : Nat} {s : mw_S} {x1 : Int32} {x2 : Int32} {x3 : Int32} {l4 : Option Value}  : mj_exec X d 16 29 [some (.ref 31), some (.int x1), some (.int x2), some (.int x3), l4] [] (mw_U s) = mj_exec X d 16 38 [some (.ref 31), some (.int (x1 ||| ((nI 1) <<< (x3 &&& 31)))), some (.int x2), some (.int x3), some (.int (nI 0))] [] (mw_U s) := (mj_q_iload_n mw_m16 d16_29 rfl).trans ((mj_q_iconst mw_m16 d16_30 mw_k_iconst_1).trans ((mj_q_iload_n mw_m16 d16_31 rfl).trans ((mj_q_ishl mw_m16 d16_32).trans ((mj_q_ior mw_m16 d16_33).trans ((mj_q_istore_n mw_m16 d16_34 (Nat.le_of_ble_eq_true rfl) rfl rfl).trans ((mj_q_iconst mw_m16 d16_35 mw_k_iconst_0).trans (mj_q_istore mw_m16 d16_36 (Nat.le_of_ble_eq_true rfl) rfl rfl)))))))
theorem b16_38 {X : mj_X} {d : Nat} {s : mw_S} {x1 : Int32} {x2 : Int32} {x3 : Int32} {x4 : Int32}  : mj_exec X d 16 38 [some (.ref 31), some (.int x1), some (.int x2), some (.int x3), some (.int x4)] [] (mw_U s) = if (nI 8) ≤ x4 then mj_exec X d 16 67 [some (.ref 31), some (.int x1), some (.int x2), some (.int x3), some (.int x4)] [] (mw_U s) else mj_exec X d 16 45 [some (.ref 31), some (.int x1), some (.int x2), some (.int x3), some (.int x4)] [] (mw_U s) := (mj_q_iload mw_m16 d16_38 rfl).trans ((mj_q_bipush mw_m16 d16_40 mw_k_bipush_8).trans (mj_q_icmp_ge mw_m16 d16_42 rfl))
theorem b16_45 {X : mj_X} {d : Nat} {s : mw_S} {x1 : Int32} {x2 : Int32} {x3 : Int32} {x4 : Int32}  : mj_exec X (d + 1) 16 45 [some (.ref 31), some (.int x1), some (.int x2), some (.int x3), some (.int x4)] [] (mw_U s) = (mj_call X d 17 [.ref 31, .int x1] (mw_U s)).bind (mj_bk X (d + 1) 16 51 [some (.ref 31), some (.int x1), some (.int x2), some (.int x3), some (.int x4)] [.int x2]) := (mj_q_iload_n mw_m16 d16_45 rfl).trans ((mj_q_aload_n mw_m16 d16_46 rfl (by decide)).trans ((mj_q_iload_n mw_m16 d16_47 rfl).trans (mw_q_callv mw_m16 rfl d16_48 mw_p1_34 mw_m17 rfl rfl (Nat.le_of_ble_eq_true rfl) (Nat.le_of_ble_eq_true rfl) rfl (mw_rcv mw_c_31) rfl rfl)))
theorem b16_51 {X : mj_X} {d : Nat} {s : mw_S} {x1 : Int32} {x2 : Int32} {x3 : Int32} {x4 : Int32} {xs0 : Int32} {xs1 : Int32}  : mj_exec X (d + 1) 16 51 [some (.ref 31), some (.int x1), some (.int x2), some (.int x3), some (.int x4)] [.int xs1, .int xs0] (mw_U s) = (mj_call X d 17 [.ref 31, .int (xs0 ||| xs1)] (mw_U s)).bind (mj_bk X (d + 1) 16 59 [some (.ref 31), some (.int x1), some (.int (xs0 ||| xs1)), some (.int x3), some (.int x4)] [.int x1]) := (mj_q_ior mw_m16 d16_51).trans ((mj_q_istore_n mw_m16 d16_52 (Nat.le_of_ble_eq_true rfl) rfl rfl).trans ((mj_q_iload_n mw_m16 d16_53 rfl).trans ((mj_q_aload_n mw_m16 d16_54 rfl (by decide)).trans ((mj_q_iload_n mw_m16 d16_55 rfl).trans (mw_q_callv mw_m16 rfl d16_56 mw_p1_34 mw_m17 rfl rfl (Nat.le_of_ble_eq_true rfl) (Nat.le_of_ble_eq_true rfl) rfl (mw_rcv mw_c_31) rfl rfl)))))
theorem b16_59 {X : mj_X} {d : Nat} {s : mw_S} {x1 : Int32} {x2 : Int32} {x3 : Int32} {x4 : Int32} {xs0 : Int32} {xs1 : Int32}  : mj_exec X d 16 59 [some (.ref 31), some (.int x1), some (.int x2), some (.int x3), some (.int x4)] [.int xs1, .int xs0] (mw_U s) = mj_exec X d 16 38 [some (.ref 31), some (.int (xs0 ||| xs1)), some (.int x2), some (.int x3), some (.int (x4 + (nI 1)))] [] (mw_U s) := (mj_q_ior mw_m16 d16_59).trans ((mj_q_istore_n mw_m16 d16_60 (Nat.le_of_ble_eq_true rfl) rfl rfl).trans ((mj_q_iinc mw_m16 d16_61 rfl (Nat.le_of_ble_eq_true rfl) rfl mw_k_iconst_1 rfl).trans (mj_q_goto mw_m16 d16_64 rfl)))
theorem b16_67 {X : mj_X} {d : Nat} {s : mw_S} {x1 : Int32} {x2 : Int32} {x3 : Int32} {l4 : Option Value}  : mj_exec X d 16 67 [some (.ref 31), some (.int x1), some (.int x2), some (.int x3), l4] [] (mw_U s) = mj_exec X d 16 6 [some (.ref 31), some (.int x1), some (.int x2), some (.int (x3 + (nI 1))), l4] [] (mw_U s) := (mj_q_iinc mw_m16 d16_67 rfl (Nat.le_of_ble_eq_true rfl) rfl mw_k_iconst_1 rfl).trans (mj_q_goto mw_m16 d16_70 rfl)
theorem b16_73 {X : mj_X} {d : Nat} {s : mw_S} {x1 : Int32} {x2 : Int32} {x3 : Int32} {l4 : Option Value}  : mj_exec X d 16 73 [some (.ref 31), some (.int x1), some (.int x2), some (.int x3), l4] [] (mw_U s) = if (x1 &&& x2) = 0 then mj_exec X d 16 79 [some (.ref 31), some (.int x1), some (.int x2), some (.int x3), l4] [] (mw_U s) else mj_exec X d 16 83 [some (.ref 31), some (.int x1), some (.int x2), some (.int x3), l4] [] (mw_U s) := (mj_q_iload_n mw_m16 d16_73 rfl).trans ((mj_q_iload_n mw_m16 d16_74 rfl).trans ((mj_q_iand mw_m16 d16_75).trans (mj_q_if_ne mw_m16 d16_76 rfl)))
theorem b16_79 {X : mj_X} {d : Nat} {s : mw_S} {x1 : Int32} {x2 : Int32} {x3 : Int32} {l4 : Option Value}  : mj_exec X d 16 79 [some (.ref 31), some (.int x1), some (.int x2), some (.int x3), l4] [] (mw_U s) = mj_exec X d 16 84 [some (.ref 31), some (.int x1), some (.int x2), some (.int x3), l4] [.int x1] (mw_U s) := (mj_q_iload_n mw_m16 d16_79 rfl).trans (mj_q_goto mw_m16 d16_80 rfl)
theorem b16_83 {X : mj_X} {d : Nat} {s : mw_S} {x1 : Int32} {x2 : Int32} {x3 : Int32} {l4 : Option Value}  : mj_exec X d 16 83 [some (.ref 31), some (.int x1), some (.int x2), some (.int x3), l4] [] (mw_U s) = mj_exec X d 16 84 [some (.ref 31), some (.int x1), some (.int x2), some (.int x3), l4] [.int (-1)] (mw_U s) := mj_q_iconst mw_m16 d16_83 mw_k_iconst_m1
theorem b16_84 {X : mj_X} {d : Nat} {s : mw_S} {x1 : Int32} {x2 : Int32} {x3 : Int32} {l4 : Option Value} {xs0 : Int32}  : mj_exec X d 16 84 [some (.ref 31), some (.int x1), some (.int x2), some (.int x3), l4] [.int xs0] (mw_U s) = some (.inl (some (.int xs0)), mw_U s) := mj_q_iret mw_m16 d16_84 rfl
/-- WivesQuarrels$Circle.tiesOfAny -/
theorem d17_0 : decode prog_3_method_3_code 0 = .ok (.iconst 0, 1) := by decide +kernel
theorem d17_1 : decode prog_3_method_3_code 1 = .ok (.istore_n 2, 1) := by decide +kernel
theorem d17_2 : decode prog_3_method_3_code 2 = .ok (.iconst 0, 1) := by decide +kernel
theorem d17_3 : decode prog_3_method_3_code 3 = .ok (.istore_n 3, 1) := by decide +kernel
theorem d17_4 : decode prog_3_method_3_code 4 = .ok (.iload_n 3, 1) := by decide +kernel
theorem d17_5 : decode prog_3_method_3_code 5 = .ok (.bipush 8, 2) := by decide +kernel
theorem d17_7 : decode prog_3_method_3_code 7 = .ok (.if_icmp .ge 26, 3) := by decide +kernel
theorem d17_10 : decode prog_3_method_3_code 10 = .ok (.iload_n 3, 1) := by decide +kernel
theorem d17_11 : decode prog_3_method_3_code 11 = .ok (.iload_n 1, 1) := by decide +kernel
theorem d17_12 : decode prog_3_method_3_code 12 = .ok (.invokestatic 30, 3) := by decide +kernel
theorem d17_15 : decode prog_3_method_3_code 15 = .ok (.ifCond .eq 12, 3) := by decide +kernel
theorem d17_18 : decode prog_3_method_3_code 18 = .ok (.iload_n 2, 1) := by decide +kernel
theorem d17_19 : decode prog_3_method_3_code 19 = .ok (.aload_n 0, 1) := by decide +kernel
theorem d17_20 : decode prog_3_method_3_code 20 = .ok (.getfield 9, 3) := by decide +kernel
theorem d17_23 : decode prog_3_method_3_code 23 = .ok (.iload_n 3, 1) := by decide +kernel
theorem d17_24 : decode prog_3_method_3_code 24 = .ok (.iaload, 1) := by decide +kernel
theorem d17_25 : decode prog_3_method_3_code 25 = .ok (.ior, 1) := by decide +kernel
theorem d17_26 : decode prog_3_method_3_code 26 = .ok (.istore_n 2, 1) := by decide +kernel
theorem d17_27 : decode prog_3_method_3_code 27 = .ok (.iinc 3 1, 3) := by decide +kernel
theorem d17_30 : decode prog_3_method_3_code 30 = .ok (.goto (-26), 3) := by decide +kernel
theorem d17_33 : decode prog_3_method_3_code 33 = .ok (.iload_n 2, 1) := by decide +kernel
theorem d17_34 : decode prog_3_method_3_code 34 = .ok (.ireturn, 1) := by decide +kernel
theorem b17 {X : mj_X} {d : Nat} {w : mj_W} {x0 : Nat} {x1 : Int32} : mj_call X d 17 [.ref x0, .int x1] w = mj_exec X d 17 0 [some (.ref x0), some (.int x1), none, none] [] w := mw_ent mw_m17 (Nat.le_of_ble_eq_true rfl) rfl
theorem b17_0 {X : mj_X} {d : Nat} {s : mw_S} {x1 : Int32} {l2 : Option Value} {l3 : Option Value}  : mj_exec X d 17 0 [some (.ref 31), some (.int x1), l2, l3] [] (mw_U s) = mj_exec X d 17 4 [some (.ref 31), some (.int x1), some (.int (nI 0)), some (.int (nI 0))] [] (mw_U s) := (mj_q_iconst mw_m17 d17_0 mw_k_iconst_0).trans ((mj_q_istore_n mw_m17 d17_1 (Nat.le_of_ble_eq_true rfl) rfl rfl).trans ((mj_q_iconst mw_m17 d17_2 mw_k_iconst_0).trans (mj_q_istore_n mw_m17 d17_3 (Nat.le_of_ble_eq_true rfl) rfl rfl)))
theorem b17_4 {X : mj_X} {d : Nat} {s : mw_S} {x1 : Int32} {x2 : Int32} {x3 : Int32}  : mj_exec X d 17 4 [some (.ref 31), some (.int x1), some (.int x2), some (.int x3)] [] (mw_U s) = if (nI 8) ≤ x3 then mj_exec X d 17 33 [some (.ref 31), some (.int x1), some (.int x2), some (.int x3)] [] (mw_U s) else mj_exec X d 17 10 [some (.ref 31), some (.int x1), some (.int x2), some (.int x3)] [] (mw_U s) := (mj_q_iload_n mw_m17 d17_4 rfl).trans ((mj_q_bipush mw_m17 d17_5 mw_k_bipush_8).trans (mj_q_icmp_ge mw_m17 d17_7 rfl))
theorem b17_10 {X : mj_X} {d : Nat} {s : mw_S} {x1 : Int32} {x2 : Int32} {x3 : Int32}  : mj_exec X (d + 1) 17 10 [some (.ref 31), some (.int x1), some (.int x2), some (.int x3)] [] (mw_U s) = (mj_call X d 149 [.int x3, .int x1] (mw_U s)).bind (mj_bk X (d + 1) 17 15 [some (.ref 31), some (.int x1), some (.int x2), some (.int x3)] []) := (mj_q_iload_n mw_m17 d17_10 rfl).trans ((mj_q_iload_n mw_m17 d17_11 rfl).trans (mw_q_calln mw_m17 rfl d17_12 mw_p1_30 mw_m149 rfl rfl (Nat.le_of_ble_eq_true rfl) (Nat.le_of_ble_eq_true rfl) rfl rfl))
theorem b17_15 {X : mj_X} {d : Nat} {s : mw_S} {x1 : Int32} {x2 : Int32} {x3 : Int32} {xs0 : Int32}  : mj_exec X d 17 15 [some (.ref 31), some (.int x1), some (.int x2), some (.int x3)] [.int xs0] (mw_U s) = if xs0 = 0 then mj_exec X d 17 27 [some (.ref 31), some (.int x1), some (.int x2), some (.int x3)] [] (mw_U s) else mj_exec X d 17 18 [some (.ref 31), some (.int x1), some (.int x2), some (.int x3)] [] (mw_U s) := mj_q_if_eq mw_m17 d17_15 rfl
theorem b17_18 {X : mj_X} {d : Nat} {s : mw_S} {x1 : Int32} {x2 : Int32} {x3 : Int32}  : mj_exec X d 17 18 [some (.ref 31), some (.int x1), some (.int x2), some (.int x3)] [] (mw_U s) = if mw_in 8 x3 = true then mj_exec X d 17 27 [some (.ref 31), some (.int x1), some (.int (x2 ||| (s.1 32 (x3).toNatClampNeg))), some (.int x3)] [] (mw_U s) else none := (mj_q_iload_n mw_m17 d17_18 rfl).trans ((mj_q_aload_n mw_m17 d17_19 rfl (by decide)).trans ((mw_q_getr mw_m17 d17_20 mw_p1_9 mw_c_31 mw_f_31_0).trans ((mj_q_iload_n mw_m17 d17_23 rfl).trans ((mw_h_iald mw_m17 d17_24 mw_r_32).trans (mw_g ((mj_q_ior mw_m17 d17_25).trans (mj_q_istore_n mw_m17 d17_26 (Nat.le_of_ble_eq_true rfl) rfl rfl)))))))
theorem b17_27 {X : mj_X} {d : Nat} {s : mw_S} {x1 : Int32} {x2 : Int32} {x3 : Int32}  : mj_exec X d 17 27 [some (.ref 31), some (.int x1), some (.int x2), some (.int x3)] [] (mw_U s) = mj_exec X d 17 4 [some (.ref 31), some (.int x1), some (.int x2), some (.int (x3 + (nI 1)))] [] (mw_U s) := (mj_q_iinc mw_m17 d17_27 rfl (Nat.le_of_ble_eq_true rfl) rfl mw_k_iconst_1 rfl).trans (mj_q_goto mw_m17 d17_30 rfl)
theorem b17_33 {X : mj_X} {d : Nat} {s : mw_S} {x1 : Int32} {x2 : Int32} {x3 : Int32}  : mj_exec X d 17 33 [some (.ref 31), some (.int x1), some (.int x2), some (.int x3)] [] (mw_U s) = some (.inl (some (.int x2)), mw_U s) := (mj_q_iload_n mw_m17 d17_33 rfl).trans (mj_q_iret mw_m17 d17_34 rfl)
/-- WivesQuarrels$Circle.threes -/
theorem d18_0 : decode prog_3_method_13_code 0 = .ok (.iconst 0, 1) := by decide +kernel
theorem d18_1 : decode prog_3_method_13_code 1 = .ok (.istore_n 1, 1) := by decide +kernel
theorem d18_2 : decode prog_3_method_13_code 2 = .ok (.iconst 0, 1) := by decide +kernel
theorem d18_3 : decode prog_3_method_13_code 3 = .ok (.istore_n 2, 1) := by decide +kernel
theorem d18_4 : decode prog_3_method_13_code 4 = .ok (.iload_n 2, 1) := by decide +kernel
theorem d18_5 : decode prog_3_method_13_code 5 = .ok (.bipush 28, 2) := by decide +kernel
theorem d18_7 : decode prog_3_method_13_code 7 = .ok (.if_icmp .ge 56, 3) := by decide +kernel
theorem d18_10 : decode prog_3_method_13_code 10 = .ok (.getstatic 61, 3) := by decide +kernel
theorem d18_13 : decode prog_3_method_13_code 13 = .ok (.iload_n 2, 1) := by decide +kernel
theorem d18_14 : decode prog_3_method_13_code 14 = .ok (.iaload, 1) := by decide +kernel
theorem d18_15 : decode prog_3_method_13_code 15 = .ok (.istore_n 3, 1) := by decide +kernel
theorem d18_16 : decode prog_3_method_13_code 16 = .ok (.getstatic 64, 3) := by decide +kernel
theorem d18_19 : decode prog_3_method_13_code 19 = .ok (.iload_n 2, 1) := by decide +kernel
theorem d18_20 : decode prog_3_method_13_code 20 = .ok (.iaload, 1) := by decide +kernel
theorem d18_21 : decode prog_3_method_13_code 21 = .ok (.istore 4, 2) := by decide +kernel
theorem d18_23 : decode prog_3_method_13_code 23 = .ok (.iload 4, 2) := by decide +kernel
theorem d18_25 : decode prog_3_method_13_code 25 = .ok (.aload_n 0, 1) := by decide +kernel
theorem d18_26 : decode prog_3_method_13_code 26 = .ok (.getfield 9, 3) := by decide +kernel
theorem d18_29 : decode prog_3_method_13_code 29 = .ok (.iload_n 3, 1) := by decide +kernel
theorem d18_30 : decode prog_3_method_13_code 30 = .ok (.iaload, 1) := by decide +kernel
theorem d18_31 : decode prog_3_method_13_code 31 = .ok (.invokestatic 30, 3) := by decide +kernel
theorem d18_34 : decode prog_3_method_13_code 34 = .ok (.ifCond .eq 23, 3) := by decide +kernel
theorem d18_37 : decode prog_3_method_13_code 37 = .ok (.iload_n 1, 1) := by decide +kernel
theorem d18_38 : decode prog_3_method_13_code 38 = .ok (.aload_n 0, 1) := by decide +kernel
theorem d18_39 : decode prog_3_method_13_code 39 = .ok (.getfield 9, 3) := by decide +kernel
theorem d18_42 : decode prog_3_method_13_code 42 = .ok (.iload_n 3, 1) := by decide +kernel
theorem d18_43 : decode prog_3_method_13_code 43 = .ok (.iaload, 1) := by decide +kernel
theorem d18_44 : decode prog_3_method_13_code 44 = .ok (.aload_n 0, 1) := by decide +kernel
theorem d18_45 : decode prog_3_method_13_code 45 = .ok (.getfield 9, 3) := by decide +kernel
theorem d18_48 : decode prog_3_method_13_code 48 = .ok (.iload 4, 2) := by decide +kernel
theorem d18_50 : decode prog_3_method_13_code 50 = .ok (.iaload, 1) := by decide +kernel
theorem d18_51 : decode prog_3_method_13_code 51 = .ok (.iand, 1) := by decide +kernel
theorem d18_52 : decode prog_3_method_13_code 52 = .ok (.invokestatic 37, 3) := by decide +kernel
theorem d18_55 : decode prog_3_method_13_code 55 = .ok (.iadd, 1) := by decide +kernel
theorem d18_56 : decode prog_3_method_13_code 56 = .ok (.istore_n 1, 1) := by decide +kernel
theorem d18_57 : decode prog_3_method_13_code 57 = .ok (.iinc 2 1, 3) := by decide +kernel
theorem d18_60 : decode prog_3_method_13_code 60 = .ok (.goto (-56), 3) := by decide +kernel
theorem d18_63 : decode prog_3_method_13_code 63 = .ok (.iload_n 1, 1) := by decide +kernel
theorem d18_64 : decode prog_3_method_13_code 64 = .ok (.iconst 3, 1) := by decide +kernel
theorem d18_65 : decode prog_3_method_13_code 65 = .ok (.idiv, 1) := by decide +kernel
theorem d18_66 : decode prog_3_method_13_code 66 = .ok (.ireturn, 1) := by decide +kernel
theorem b18 {X : mj_X} {d : Nat} {w : mj_W} {x0 : Nat} : mj_call X d 18 [.ref x0] w = mj_exec X d 18 0 [some (.ref x0), none, none, none, none] [] w := mw_ent mw_m18 (Nat.le_of_ble_eq_true rfl) rfl
theorem b18_0 {X : mj_X} {d : Nat} {s : mw_S} {l1 : Option Value} {l2 : Option Value} {l3 : Option Value} {l4 : Option Value}  : mj_exec X d 18 0 [some (.ref 31), l1, l2, l3, l4] [] (mw_U s) = mj_exec X d 18 4 [some (.ref 31), some (.int (nI 0)), some (.int (nI 0)), l3, l4] [] (mw_U s) := (mj_q_iconst mw_m18 d18_0 mw_k_iconst_0).trans ((mj_q_istore_n mw_m18 d18_1 (Nat.le_of_ble_eq_true rfl) rfl rfl).trans ((mj_q_iconst mw_m18 d18_2 mw_k_iconst_0).trans (mj_q_istore_n mw_m18 d18_3 (Nat.le_of_ble_eq_true rfl) rfl rfl)))
theorem b18_4 {X : mj_X} {d : Nat} {s : mw_S} {x1 : Int32} {x2 : Int32} {l3 : Option Value} {l4 : Option Value}  : mj_exec X d 18 4 [some (.ref 31), some (.int x1), some (.int x2), l3, l4] [] (mw_U s) = if (nI 28) ≤ x2 then mj_exec X d 18 63 [some (.ref 31), some (.int x1), some (.int x2), l3, l4] [] (mw_U s) else mj_exec X d 18 10 [some (.ref 31), some (.int x1), some (.int x2), l3, l4] [] (mw_U s) := (mj_q_iload_n mw_m18 d18_4 rfl).trans ((mj_q_bipush mw_m18 d18_5 mw_k_bipush_28).trans (mj_q_icmp_ge mw_m18 d18_7 rfl))
theorem b18_10 {X : mj_X} {d : Nat} {s : mw_S} {x1 : Int32} {x2 : Int32} {l3 : Option Value} {l4 : Option Value}  : mj_exec X (d + 1) 18 10 [some (.ref 31), some (.int x1), some (.int x2), l3, l4] [] (mw_U s) = if mw_in 28 x2 = true then if mw_in 28 x2 = true then if mw_in 8 (mw_les (x2).toNatClampNeg) = true then (mj_call X d 149 [.int (mw_gre (x2).toNatClampNeg), .int (s.1 32 ((mw_les (x2).toNatClampNeg)).toNatClampNeg)] (mw_U s)).bind (mj_bk X (d + 1) 18 34 [some (.ref 31), some (.int x1), some (.int x2), some (.int (mw_les (x2).toNatClampNeg)), some (.int (mw_gre (x2).toNatClampNeg))] []) else none else none else none := (mj_q_getsN mw_m18 d18_10 mw_p1_61).trans ((mj_q_iload_n mw_m18 d18_13 rfl).trans ((mw_h_iakd mw_m18 d18_14 (by decide) (mw_ka0 X)).trans (mw_g ((mj_q_istore_n mw_m18 d18_15 (Nat.le_of_ble_eq_true rfl) rfl rfl).trans ((mj_q_getsN mw_m18 d18_16 mw_p1_64).trans ((mj_q_iload_n mw_m18 d18_19 rfl).trans ((mw_h_iakd mw_m18 d18_20 (by decide) (mw_ka1 X)).trans (mw_g ((mj_q_istore mw_m18 d18_21 (Nat.le_of_ble_eq_true rfl) rfl rfl).trans ((mj_q_iload mw_m18 d18_23 rfl).trans ((mj_q_aload_n mw_m18 d18_25 rfl (by decide)).trans ((mw_q_getr mw_m18 d18_26 mw_p1_9 mw_c_31 mw_f_31_0).trans ((mj_q_iload_n mw_m18 d18_29 rfl).trans ((mw_h_iald mw_m18 d18_30 mw_r_32).trans (mw_g (mw_q_calln mw_m18 rfl d18_31 mw_p1_30 mw_m149 rfl rfl (Nat.le_of_ble_eq_true rfl) (Nat.le_of_ble_eq_true rfl) rfl rfl))))))))))))))))
theorem b18_34 {X : mj_X} {d : Nat} {s : mw_S} {x1 : Int32} {x2 : Int32} {x3 : Int32} {x4 : Int32} {xs0 : Int32}  : mj_exec X d 18 34 [some (.ref 31), some (.int x1), some (.int x2), some (.int x3), some (.int x4)] [.int xs0] (mw_U s) = if xs0 = 0 then mj_exec X d 18 57 [some (.ref 31), some (.int x1), some (.int x2), some (.int x3), some (.int x4)] [] (mw_U s) else mj_exec X d 18 37 [some (.ref 31), some (.int x1), some (.int x2), some (.int x3), some (.int x4)] [] (mw_U s) := mj_q_if_eq mw_m18 d18_34 rfl
theorem b18_37 {X : mj_X} {d : Nat} {s : mw_S} {x1 : Int32} {x2 : Int32} {x3 : Int32} {x4 : Int32}  : mj_exec X (d + 1) 18 37 [some (.ref 31), some (.int x1), some (.int x2), some (.int x3), some (.int x4)] [] (mw_U s) = if mw_in 8 x3 = true then if mw_in 8 x4 = true then (mj_call X d 348 [.int ((s.1 32 (x3).toNatClampNeg) &&& (s.1 32 (x4).toNatClampNeg))] (mw_U s)).bind (mj_bk X (d + 1) 18 55 [some (.ref 31), some (.int x1), some (.int x2), some (.int x3), some (.int x4)] [.int x1]) else none else none := (mj_q_iload_n mw_m18 d18_37 rfl).trans ((mj_q_aload_n mw_m18 d18_38 rfl (by decide)).trans ((mw_q_getr mw_m18 d18_39 mw_p1_9 mw_c_31 mw_f_31_0).trans ((mj_q_iload_n mw_m18 d18_42 rfl).trans ((mw_h_iald mw_m18 d18_43 mw_r_32).trans (mw_g ((mj_q_aload_n mw_m18 d18_44 rfl (by decide)).trans ((mw_q_getr mw_m18 d18_45 mw_p1_9 mw_c_31 mw_f_31_0).trans ((mj_q_iload mw_m18 d18_48 rfl).trans ((mw_h_iald mw_m18 d18_50 mw_r_32).trans (mw_g ((mj_q_iand mw_m18 d18_51).trans (mw_q_calls mw_m18 rfl d18_52 mw_p1_37 mw_m348 rfl (Nat.le_of_ble_eq_true rfl) (Nat.le_of_ble_eq_true rfl) rfl rfl))))))))))))
theorem b18_55 {X : mj_X} {d : Nat} {s : mw_S} {x1 : Int32} {x2 : Int32} {x3 : Int32} {x4 : Int32} {xs0 : Int32} {xs1 : Int32}  : mj_exec X d 18 55 [some (.ref 31), some (.int x1), some (.int x2), some (.int x3), some (.int x4)] [.int xs1, .int xs0] (mw_U s) = mj_exec X d 18 57 [some (.ref 31), some (.int (xs0 + xs1)), some (.int x2), some (.int x3), some (.int x4)] [] (mw_U s) := (mj_q_iadd mw_m18 d18_55).trans (mj_q_istore_n mw_m18 d18_56 (Nat.le_of_ble_eq_true rfl) rfl rfl)
theorem b18_57 {X : mj_X} {d : Nat} {s : mw_S} {x1 : Int32} {x2 : Int32} {x3 : Int32} {x4 : Int32}  : mj_exec X d 18 57 [some (.ref 31), some (.int x1), some (.int x2), some (.int x3), some (.int x4)] [] (mw_U s) = mj_exec X d 18 4 [some (.ref 31), some (.int x1), some (.int (x2 + (nI 1))), some (.int x3), some (.int x4)] [] (mw_U s) := (mj_q_iinc mw_m18 d18_57 rfl (Nat.le_of_ble_eq_true rfl) rfl mw_k_iconst_1 rfl).trans (mj_q_goto mw_m18 d18_60 rfl)
theorem b18_63 {X : mj_X} {d : Nat} {s : mw_S} {x1 : Int32} {x2 : Int32} {l3 : Option Value} {l4 : Option Value}  : mj_exec X d 18 63 [some (.ref 31), some (.int x1), some (.int x2), l3, l4] [] (mw_U s) = if mw_nz (nI 3) = true then some (.inl (some (.int (x1 / (nI 3)))), mw_U s) else none := (mj_q_iload_n mw_m18 d18_63 rfl).trans ((mj_q_iconst mw_m18 d18_64 mw_k_iconst_3).trans ((mw_h_idiv mw_m18 d18_65).trans (mw_g (mj_q_iret mw_m18 d18_66 rfl))))
/-- WivesQuarrels$Circle.foesOfAll -/
theorem d19_0 : decode prog_3_method_14_code 0 = .ok (.iconst 0, 1) := by decide +kernel
theorem d19_1 : decode prog_3_method_14_code 1 = .ok (.istore_n 1, 1) := by decide +kernel
theorem d19_2 : decode prog_3_method_14_code 2 = .ok (.iconst 0, 1) := by decide +kernel
theorem d19_3 : decode prog_3_method_14_code 3 = .ok (.istore_n 2, 1) := by decide +kernel
theorem d19_4 : decode prog_3_method_14_code 4 = .ok (.iload_n 2, 1) := by decide +kernel
theorem d19_5 : decode prog_3_method_14_code 5 = .ok (.bipush 8, 2) := by decide +kernel
theorem d19_7 : decode prog_3_method_14_code 7 = .ok (.if_icmp .ge 50, 3) := by decide +kernel
theorem d19_10 : decode prog_3_method_14_code 10 = .ok (.aload_n 0, 1) := by decide +kernel
theorem d19_11 : decode prog_3_method_14_code 11 = .ok (.getfield 18, 3) := by decide +kernel
theorem d19_14 : decode prog_3_method_14_code 14 = .ok (.iconst 1, 1) := by decide +kernel
theorem d19_15 : decode prog_3_method_14_code 15 = .ok (.iload_n 2, 1) := by decide +kernel
theorem d19_16 : decode prog_3_method_14_code 16 = .ok (.ishl, 1) := by decide +kernel
theorem d19_17 : decode prog_3_method_14_code 17 = .ok (.iconst (-1), 1) := by decide +kernel
theorem d19_18 : decode prog_3_method_14_code 18 = .ok (.ixor, 1) := by decide +kernel
theorem d19_19 : decode prog_3_method_14_code 19 = .ok (.iand, 1) := by decide +kernel
theorem d19_20 : decode prog_3_method_14_code 20 = .ok (.istore_n 3, 1) := by decide +kernel
theorem d19_21 : decode prog_3_method_14_code 21 = .ok (.iload_n 2, 1) := by decide +kernel
theorem d19_22 : decode prog_3_method_14_code 22 = .ok (.aload_n 0, 1) := by decide +kernel
theorem d19_23 : decode prog_3_method_14_code 23 = .ok (.getfield 18, 3) := by decide +kernel
theorem d19_26 : decode prog_3_method_14_code 26 = .ok (.invokestatic 30, 3) := by decide +kernel
theorem d19_29 : decode prog_3_method_14_code 29 = .ok (.ifCond .eq 22, 3) := by decide +kernel
theorem d19_32 : decode prog_3_method_14_code 32 = .ok (.iload_n 3, 1) := by decide +kernel
theorem d19_33 : decode prog_3_method_14_code 33 = .ok (.aload_n 0, 1) := by decide +kernel
theorem d19_34 : decode prog_3_method_14_code 34 = .ok (.getfield 9, 3) := by decide +kernel
theorem d19_37 : decode prog_3_method_14_code 37 = .ok (.iload_n 2, 1) := by decide +kernel
theorem d19_38 : decode prog_3_method_14_code 38 = .ok (.iaload, 1) := by decide +kernel
theorem d19_39 : decode prog_3_method_14_code 39 = .ok (.iconst (-1), 1) := by decide +kernel
theorem d19_40 : decode prog_3_method_14_code 40 = .ok (.ixor, 1) := by decide +kernel
theorem d19_41 : decode prog_3_method_14_code 41 = .ok (.iand, 1) := by decide +kernel
theorem d19_42 : decode prog_3_method_14_code 42 = .ok (.ifCond .ne 9, 3) := by decide +kernel
theorem d19_45 : decode prog_3_method_14_code 45 = .ok (.iload_n 1, 1) := by decide +kernel
theorem d19_46 : decode prog_3_method_14_code 46 = .ok (.iconst 1, 1) := by decide +kernel
theorem d19_47 : decode prog_3_method_14_code 47 = .ok (.iload_n 2, 1) := by decide +kernel
theorem d19_48 : decode prog_3_method_14_code 48 = .ok (.ishl, 1) := by decide +kernel
theorem d19_49 : decode prog_3_method_14_code 49 = .ok (.ior, 1) := by decide +kernel
theorem d19_50 : decode prog_3_method_14_code 50 = .ok (.istore_n 1, 1) := by decide +kernel
theorem d19_51 : decode prog_3_method_14_code 51 = .ok (.iinc 2 1, 3) := by decide +kernel
theorem d19_54 : decode prog_3_method_14_code 54 = .ok (.goto (-50), 3) := by decide +kernel
theorem d19_57 : decode prog_3_method_14_code 57 = .ok (.iload_n 1, 1) := by decide +kernel
theorem d19_58 : decode prog_3_method_14_code 58 = .ok (.ireturn, 1) := by decide +kernel
theorem b19 {X : mj_X} {d : Nat} {w : mj_W} {x0 : Nat} : mj_call X d 19 [.ref x0] w = mj_exec X d 19 0 [some (.ref x0), none, none, none] [] w := mw_ent mw_m19 (Nat.le_of_ble_eq_true rfl) rfl
theorem b19_0 {X : mj_X} {d : Nat} {s : mw_S} {l1 : Option Value} {l2 : Option Value} {l3 : Option Value}  : mj_exec X d 19 0 [some (.ref 31), l1, l2, l3] [] (mw_U s) = mj_exec X d 19 4 [some (.ref 31), some (.int (nI 0)), some (.int (nI 0)), l3] [] (mw_U s) := (mj_q_iconst mw_m19 d19_0 mw_k_iconst_0).trans ((mj_q_istore_n mw_m19 d19_1 (Nat.le_of_ble_eq_true rfl) rfl rfl).trans ((mj_q_iconst mw_m19 d19_2 mw_k_iconst_0).trans (mj_q_istore_n mw_m19 d19_3 (Nat.le_of_ble_eq_true rfl) rfl rfl)))
theorem b19_4 {X : mj_X} {d : Nat} {s : mw_S} {x1 : Int32} {x2 : Int32} {l3 : Option Value}  : mj_exec X d 19 4 [some (.ref 31), some (.int x1), some (.int x2), l3] [] (mw_U s) = if (nI 8) ≤ x2 then mj_exec X d 19 57 [some (.ref 31), some (.int x1), some (.int x2), l3] [] (mw_U s) else mj_exec X d 19 10 [some (.ref 31), some (.int x1), some (.int x2), l3] [] (mw_U s) := (mj_q_iload_n mw_m19 d19_4 rfl).trans ((mj_q_bipush mw_m19 d19_5 mw_k_bipush_8).trans (mj_q_icmp_ge mw_m19 d19_7 rfl))
theorem b19_10 {X : mj_X} {d : Nat} {s : mw_S} {x1 : Int32} {x2 : Int32} {l3 : Option Value}  : mj_exec X (d + 1) 19 10 [some (.ref 31), some (.int x1), some (.int x2), l3] [] (mw_U s) = (mj_call X d 149 [.int x2, .int (s.1 31 2)] (mw_U s)).bind (mj_bk X (d + 1) 19 29 [some (.ref 31), some (.int x1), some (.int x2), some (.int ((s.1 31 2) &&& (((nI 1) <<< (x2 &&& 31)) ^^^ (-1))))] []) := (mj_q_aload_n mw_m19 d19_10 rfl (by decide)).trans ((mw_q_geti mw_m19 d19_11 mw_p1_18 mw_c_31 mw_f_31_2).trans ((mj_q_iconst mw_m19 d19_14 mw_k_iconst_1).trans ((mj_q_iload_n mw_m19 d19_15 rfl).trans ((mj_q_ishl mw_m19 d19_16).trans ((mj_q_iconst mw_m19 d19_17 mw_k_iconst_m1).trans ((mj_q_ixor mw_m19 d19_18).trans ((mj_q_iand mw_m19 d19_19).trans ((mj_q_istore_n mw_m19 d19_20 (Nat.le_of_ble_eq_true rfl) rfl rfl).trans ((mj_q_iload_n mw_m19 d19_21 rfl).trans ((mj_q_aload_n mw_m19 d19_22 rfl (by decide)).trans ((mw_q_geti mw_m19 d19_23 mw_p1_18 mw_c_31 mw_f_31_2).trans (mw_q_calln mw_m19 rfl d19_26 mw_p1_30 mw_m149 rfl rfl (Nat.le_of_ble_eq_true rfl) (Nat.le_of_ble_eq_true rfl) rfl rfl))))))))))))
theorem b19_29 {X : mj_X} {d : Nat} {s : mw_S} {x1 : Int32} {x2 : Int32} {x3 : Int32} {xs0 : Int32}  : mj_exec X d 19 29 [some (.ref 31), some (.int x1), some (.int x2), some (.int x3)] [.int xs0] (mw_U s) = if xs0 = 0 then mj_exec X d 19 51 [some (.ref 31), some (.int x1), some (.int x2), some (.int x3)] [] (mw_U s) else mj_exec X d 19 32 [some (.ref 31), some (.int x1), some (.int x2), some (.int x3)] [] (mw_U s) := mj_q_if_eq mw_m19 d19_29 rfl
theorem b19_32 {X : mj_X} {d : Nat} {s : mw_S} {x1 : Int32} {x2 : Int32} {x3 : Int32}  : mj_exec X d 19 32 [some (.ref 31), some (.int x1), some (.int x2), some (.int x3)] [] (mw_U s) = if mw_in 8 x2 = true then if (x3 &&& ((s.1 32 (x2).toNatClampNeg) ^^^ (-1))) = 0 then mj_exec X d 19 45 [some (.ref 31), some (.int x1), some (.int x2), some (.int x3)] [] (mw_U s) else mj_exec X d 19 51 [some (.ref 31), some (.int x1), some (.int x2), some (.int x3)] [] (mw_U s) else none := (mj_q_iload_n mw_m19 d19_32 rfl).trans ((mj_q_aload_n mw_m19 d19_33 rfl (by decide)).trans ((mw_q_getr mw_m19 d19_34 mw_p1_9 mw_c_31 mw_f_31_0).trans ((mj_q_iload_n mw_m19 d19_37 rfl).trans ((mw_h_iald mw_m19 d19_38 mw_r_32).trans (mw_g ((mj_q_iconst mw_m19 d19_39 mw_k_iconst_m1).trans ((mj_q_ixor mw_m19 d19_40).trans ((mj_q_iand mw_m19 d19_41).trans (mj_q_if_ne mw_m19 d19_42 rfl)))))))))
theorem b19_45 {X : mj_X} {d : Nat} {s : mw_S} {x1 : Int32} {x2 : Int32} {x3 : Int32}  : mj_exec X d 19 45 [some (.ref 31), some (.int x1), some (.int x2), some (.int x3)] [] (mw_U s) = mj_exec X d 19 51 [some (.ref 31), some (.int (x1 ||| ((nI 1) <<< (x2 &&& 31)))), some (.int x2), some (.int x3)] [] (mw_U s) := (mj_q_iload_n mw_m19 d19_45 rfl).trans ((mj_q_iconst mw_m19 d19_46 mw_k_iconst_1).trans ((mj_q_iload_n mw_m19 d19_47 rfl).trans ((mj_q_ishl mw_m19 d19_48).trans ((mj_q_ior mw_m19 d19_49).trans (mj_q_istore_n mw_m19 d19_50 (Nat.le_of_ble_eq_true rfl) rfl rfl)))))
theorem b19_51 {X : mj_X} {d : Nat} {s : mw_S} {x1 : Int32} {x2 : Int32} {x3 : Int32}  : mj_exec X d 19 51 [some (.ref 31), some (.int x1), some (.int x2), some (.int x3)] [] (mw_U s) = mj_exec X d 19 4 [some (.ref 31), some (.int x1), some (.int (x2 + (nI 1))), some (.int x3)] [] (mw_U s) := (mj_q_iinc mw_m19 d19_51 rfl (Nat.le_of_ble_eq_true rfl) rfl mw_k_iconst_1 rfl).trans (mj_q_goto mw_m19 d19_54 rfl)
theorem b19_57 {X : mj_X} {d : Nat} {s : mw_S} {x1 : Int32} {x2 : Int32} {l3 : Option Value}  : mj_exec X d 19 57 [some (.ref 31), some (.int x1), some (.int x2), l3] [] (mw_U s) = some (.inl (some (.int x1)), mw_U s) := (mj_q_iload_n mw_m19 d19_57 rfl).trans (mj_q_iret mw_m19 d19_58 rfl)
/-- WivesQuarrels$Circle.fewestTables -/
theorem d20_0 : decode prog_3_method_7_code 0 = .ok (.aload_n 0, 1) := by decide +kernel
theorem d20_1 : decode prog_3_method_7_code 1 = .ok (.getfield 15, 3) := by decide +kernel
theorem d20_4 : decode prog_3_method_7_code 4 = .ok (.iconst 0, 1) := by decide +kernel
theorem d20_5 : decode prog_3_method_7_code 5 = .ok (.iconst 0, 1) := by decide +kernel
theorem d20_6 : decode prog_3_method_7_code 6 = .ok (.iastore, 1) := by decide +kernel
theorem d20_7 : decode prog_3_method_7_code 7 = .ok (.iconst 1, 1) := by decide +kernel
theorem d20_8 : decode prog_3_method_7_code 8 = .ok (.istore_n 1, 1) := by decide +kernel
theorem d20_9 : decode prog_3_method_7_code 9 = .ok (.iload_n 1, 1) := by decide +kernel
theorem d20_10 : decode prog_3_method_7_code 10 = .ok (.sipush 255, 3) := by decide +kernel
theorem d20_13 : decode prog_3_method_7_code 13 = .ok (.if_icmp .gt 28, 3) := by decide +kernel
theorem d20_16 : decode prog_3_method_7_code 16 = .ok (.aload_n 0, 1) := by decide +kernel
theorem d20_17 : decode prog_3_method_7_code 17 = .ok (.iload_n 1, 1) := by decide +kernel
theorem d20_18 : decode prog_3_method_7_code 18 = .ok (.invokevirtual 42, 3) := by decide +kernel
theorem d20_21 : decode prog_3_method_7_code 21 = .ok (.ifCond .eq 14, 3) := by decide +kernel
theorem d20_24 : decode prog_3_method_7_code 24 = .ok (.aload_n 0, 1) := by decide +kernel
theorem d20_25 : decode prog_3_method_7_code 25 = .ok (.getfield 15, 3) := by decide +kernel
theorem d20_28 : decode prog_3_method_7_code 28 = .ok (.iload_n 1, 1) := by decide +kernel
theorem d20_29 : decode prog_3_method_7_code 29 = .ok (.aload_n 0, 1) := by decide +kernel
theorem d20_30 : decode prog_3_method_7_code 30 = .ok (.iload_n 1, 1) := by decide +kernel
theorem d20_31 : decode prog_3_method_7_code 31 = .ok (.invokevirtual 49, 3) := by decide +kernel
theorem d20_34 : decode prog_3_method_7_code 34 = .ok (.iastore, 1) := by decide +kernel
theorem d20_35 : decode prog_3_method_7_code 35 = .ok (.iinc 1 1, 3) := by decide +kernel
theorem d20_38 : decode prog_3_method_7_code 38 = .ok (.goto (-29), 3) := by decide +kernel
theorem d20_41 : decode prog_3_method_7_code 41 = .ok (.aload_n 0, 1) := by decide +kernel
theorem d20_42 : decode prog_3_method_7_code 42 = .ok (.getfield 15, 3) := by decide +kernel
theorem d20_45 : decode prog_3_method_7_code 45 = .ok (.aload_n 0, 1) := by decide +kernel
theorem d20_46 : decode prog_3_method_7_code 46 = .ok (.getfield 18, 3) := by decide +kernel
theorem d20_49 : decode prog_3_method_7_code 49 = .ok (.sipush 255, 3) := by decide +kernel
theorem d20_52 : decode prog_3_method_7_code 52 = .ok (.iand, 1) := by decide +kernel
theorem d20_53 : decode prog_3_method_7_code 53 = .ok (.iaload, 1) := by decide +kernel
theorem d20_54 : decode prog_3_method_7_code 54 = .ok (.ireturn, 1) := by decide +kernel
theorem b20 {X : mj_X} {d : Nat} {w : mj_W} {x0 : Nat} : mj_call X d 20 [.ref x0] w = mj_exec X d 20 0 [some (.ref x0), none] [] w := mw_ent mw_m20 (Nat.le_of_ble_eq_true rfl) rfl
theorem b20_0 {X : mj_X} {d : Nat} {s : mw_S} {l1 : Option Value}  : mj_exec X d 20 0 [some (.ref 31), l1] [] (mw_U s) = if mw_in 256 (nI 0) = true then mj_exec X d 20 9 [some (.ref 31), some (.int (nI 1))] [] (mw_U (mw_p s 33 ((nI 0)).toNatClampNeg (nI 0))) else none := (mj_q_aload_n mw_m20 d20_0 rfl (by decide)).trans ((mw_q_getr mw_m20 d20_1 mw_p1_15 mw_c_31 mw_f_31_1).trans ((mj_q_iconst mw_m20 d20_4 mw_k_iconst_0).trans ((mj_q_iconst mw_m20 d20_5 mw_k_iconst_0).trans ((mw_h_iast mw_m20 d20_6 mw_r_33).trans (mw_g ((mj_q_iconst mw_m20 d20_7 mw_k_iconst_1).trans (mj_q_istore_n mw_m20 d20_8 (Nat.le_of_ble_eq_true rfl) rfl rfl)))))))
theorem b20_9 {X : mj_X} {d : Nat} {s : mw_S} {x1 : Int32}  : mj_exec X d 20 9 [some (.ref 31), some (.int x1)] [] (mw_U s) = if (nI 255) < x1 then mj_exec X d 20 41 [some (.ref 31), some (.int x1)] [] (mw_U s) else mj_exec X d 20 16 [some (.ref 31), some (.int x1)] [] (mw_U s) := (mj_q_iload_n mw_m20 d20_9 rfl).trans ((mj_q_sipush mw_m20 d20_10 mw_k_sipush_255).trans (mj_q_icmp_gt mw_m20 d20_13 rfl))
theorem b20_16 {X : mj_X} {d : Nat} {s : mw_S} {x1 : Int32}  : mj_exec X (d + 1) 20 16 [some (.ref 31), some (.int x1)] [] (mw_U s) = (mj_call X d 21 [.ref 31, .int x1] (mw_U s)).bind (mj_bk X (d + 1) 20 21 [some (.ref 31), some (.int x1)] []) := (mj_q_aload_n mw_m20 d20_16 rfl (by decide)).trans ((mj_q_iload_n mw_m20 d20_17 rfl).trans (mw_q_callv mw_m20 rfl d20_18 mw_p1_42 mw_m21 rfl rfl (Nat.le_of_ble_eq_true rfl) (Nat.le_of_ble_eq_true rfl) rfl (mw_rcv mw_c_31) rfl rfl))
theorem b20_21 {X : mj_X} {d : Nat} {s : mw_S} {x1 : Int32} {xs0 : Int32}  : mj_exec X d 20 21 [some (.ref 31), some (.int x1)] [.int xs0] (mw_U s) = if xs0 = 0 then mj_exec X d 20 35 [some (.ref 31), some (.int x1)] [] (mw_U s) else mj_exec X d 20 24 [some (.ref 31), some (.int x1)] [] (mw_U s) := mj_q_if_eq mw_m20 d20_21 rfl
theorem b20_24 {X : mj_X} {d : Nat} {s : mw_S} {x1 : Int32}  : mj_exec X (d + 1) 20 24 [some (.ref 31), some (.int x1)] [] (mw_U s) = (mj_call X d 22 [.ref 31, .int x1] (mw_U s)).bind (mj_bk X (d + 1) 20 34 [some (.ref 31), some (.int x1)] [.int x1, .ref 33]) := (mj_q_aload_n mw_m20 d20_24 rfl (by decide)).trans ((mw_q_getr mw_m20 d20_25 mw_p1_15 mw_c_31 mw_f_31_1).trans ((mj_q_iload_n mw_m20 d20_28 rfl).trans ((mj_q_aload_n mw_m20 d20_29 rfl (by decide)).trans ((mj_q_iload_n mw_m20 d20_30 rfl).trans (mw_q_callv mw_m20 rfl d20_31 mw_p1_49 mw_m22 rfl rfl (Nat.le_of_ble_eq_true rfl) (Nat.le_of_ble_eq_true rfl) rfl (mw_rcv mw_c_31) rfl rfl)))))
theorem b20_34 {X : mj_X} {d : Nat} {s : mw_S} {x1 : Int32} {ks0 : Nat} {ns0 : Nat} {xs1 : Int32} {xs2 : Int32} (hs0 : mw_rw ks0 = some (.int, ns0)) : mj_exec X d 20 34 [some (.ref 31), some (.int x1)] [.int xs2, .int xs1, .ref ks0] (mw_U s) = if mw_in ns0 xs1 = true then mj_exec X d 20 35 [some (.ref 31), some (.int x1)] [] (mw_U (mw_p s ks0 (xs1).toNatClampNeg xs2)) else none := (mw_h_iast mw_m20 d20_34 hs0).trans (mw_g (rfl))
theorem b20_35 {X : mj_X} {d : Nat} {s : mw_S} {x1 : Int32}  : mj_exec X d 20 35 [some (.ref 31), some (.int x1)] [] (mw_U s) = mj_exec X d 20 9 [some (.ref 31), some (.int (x1 + (nI 1)))] [] (mw_U s) := (mj_q_iinc mw_m20 d20_35 rfl (Nat.le_of_ble_eq_true rfl) rfl mw_k_iconst_1 rfl).trans (mj_q_goto mw_m20 d20_38 rfl)
theorem b20_41 {X : mj_X} {d : Nat} {s : mw_S} {x1 : Int32}  : mj_exec X d 20 41 [some (.ref 31), some (.int x1)] [] (mw_U s) = if mw_in 256 ((s.1 31 2) &&& (nI 255)) = true then some (.inl (some (.int (s.1 33 (((s.1 31 2) &&& (nI 255))).toNatClampNeg))), mw_U s) else none := (mj_q_aload_n mw_m20 d20_41 rfl (by decide)).trans ((mw_q_getr mw_m20 d20_42 mw_p1_15 mw_c_31 mw_f_31_1).trans ((mj_q_aload_n mw_m20 d20_45 rfl (by decide)).trans ((mw_q_geti mw_m20 d20_46 mw_p1_18 mw_c_31 mw_f_31_2).trans ((mj_q_sipush mw_m20 d20_49 mw_k_sipush_255).trans ((mj_q_iand mw_m20 d20_52).trans ((mw_h_iald mw_m20 d20_53 mw_r_33).trans (mw_g (mj_q_iret mw_m20 d20_54 rfl))))))))
/-- WivesQuarrels$Circle.allLive -/
theorem d21_0 : decode prog_3_method_5_code 0 = .ok (.iload_n 1, 1) := by decide +kernel
theorem d21_1 : decode prog_3_method_5_code 1 = .ok (.aload_n 0, 1) := by decide +kernel
theorem d21_2 : decode prog_3_method_5_code 2 = .ok (.getfield 18, 3) := by decide +kernel
theorem d21_5 : decode prog_3_method_5_code 5 = .ok (.iconst (-1), 1) := by decide +kernel
theorem d21_6 : decode prog_3_method_5_code 6 = .ok (.ixor, 1) := by decide +kernel
theorem d21_7 : decode prog_3_method_5_code 7 = .ok (.iand, 1) := by decide +kernel
theorem d21_8 : decode prog_3_method_5_code 8 = .ok (.ifCond .ne 7, 3) := by decide +kernel
theorem d21_11 : decode prog_3_method_5_code 11 = .ok (.iconst 1, 1) := by decide +kernel
theorem d21_12 : decode prog_3_method_5_code 12 = .ok (.goto 4, 3) := by decide +kernel
theorem d21_15 : decode prog_3_method_5_code 15 = .ok (.iconst 0, 1) := by decide +kernel
theorem d21_16 : decode prog_3_method_5_code 16 = .ok (.ireturn, 1) := by decide +kernel
theorem b21 {X : mj_X} {d : Nat} {w : mj_W} {x0 : Nat} {x1 : Int32} : mj_call X d 21 [.ref x0, .int x1] w = mj_exec X d 21 0 [some (.ref x0), some (.int x1)] [] w := mw_ent mw_m21 (Nat.le_of_ble_eq_true rfl) rfl
theorem b21_0 {X : mj_X} {d : Nat} {s : mw_S} {x1 : Int32}  : mj_exec X d 21 0 [some (.ref 31), some (.int x1)] [] (mw_U s) = if (x1 &&& ((s.1 31 2) ^^^ (-1))) = 0 then mj_exec X d 21 11 [some (.ref 31), some (.int x1)] [] (mw_U s) else mj_exec X d 21 15 [some (.ref 31), some (.int x1)] [] (mw_U s) := (mj_q_iload_n mw_m21 d21_0 rfl).trans ((mj_q_aload_n mw_m21 d21_1 rfl (by decide)).trans ((mw_q_geti mw_m21 d21_2 mw_p1_18 mw_c_31 mw_f_31_2).trans ((mj_q_iconst mw_m21 d21_5 mw_k_iconst_m1).trans ((mj_q_ixor mw_m21 d21_6).trans ((mj_q_iand mw_m21 d21_7).trans (mj_q_if_ne mw_m21 d21_8 rfl))))))
theorem b21_11 {X : mj_X} {d : Nat} {s : mw_S} {x1 : Int32}  : mj_exec X d 21 11 [some (.ref 31), some (.int x1)] [] (mw_U s) = mj_exec X d 21 16 [some (.ref 31), some (.int x1)] [.int (nI 1)] (mw_U s) := (mj_q_iconst mw_m21 d21_11 mw_k_iconst_1).trans (mj_q_goto mw_m21 d21_12 rfl)
theorem b21_15 {X : mj_X} {d : Nat} {s : mw_S} {x1 : Int32}  : mj_exec X d 21 15 [some (.ref 31), some (.int x1)] [] (mw_U s) = mj_exec X d 21 16 [some (.ref 31), some (.int x1)] [.int (nI 0)] (mw_U s) := mj_q_iconst mw_m21 d21_15 mw_k_iconst_0
theorem b21_16 {X : mj_X} {d : Nat} {s : mw_S} {x1 : Int32} {xs0 : Int32}  : mj_exec X d 21 16 [some (.ref 31), some (.int x1)] [.int xs0] (mw_U s) = if mj_rfit (some .boolean) xs0 = true then some (.inl (some (.int xs0)), mw_U s) else none := mw_h_iret mw_m21 d21_16 rfl
/-- WivesQuarrels$Circle.tablesFor -/
theorem d22_0 : decode prog_3_method_8_code 0 = .ok (.iload_n 1, 1) := by decide +kernel
theorem d22_1 : decode prog_3_method_8_code 1 = .ok (.iload_n 1, 1) := by decide +kernel
theorem d22_2 : decode prog_3_method_8_code 2 = .ok (.ineg, 1) := by decide +kernel
theorem d22_3 : decode prog_3_method_8_code 3 = .ok (.iand, 1) := by decide +kernel
theorem d22_4 : decode prog_3_method_8_code 4 = .ok (.istore_n 2, 1) := by decide +kernel
theorem d22_5 : decode prog_3_method_8_code 5 = .ok (.bipush 8, 2) := by decide +kernel
theorem d22_7 : decode prog_3_method_8_code 7 = .ok (.istore_n 3, 1) := by decide +kernel
theorem d22_8 : decode prog_3_method_8_code 8 = .ok (.iload_n 2, 1) := by decide +kernel
theorem d22_9 : decode prog_3_method_8_code 9 = .ok (.istore 4, 2) := by decide +kernel
theorem d22_11 : decode prog_3_method_8_code 11 = .ok (.iload 4, 2) := by decide +kernel
theorem d22_13 : decode prog_3_method_8_code 13 = .ok (.iload_n 1, 1) := by decide +kernel
theorem d22_14 : decode prog_3_method_8_code 14 = .ok (.if_icmp .gt 68, 3) := by decide +kernel
theorem d22_17 : decode prog_3_method_8_code 17 = .ok (.iload 4, 2) := by decide +kernel
theorem d22_19 : decode prog_3_method_8_code 19 = .ok (.iload_n 1, 1) := by decide +kernel
theorem d22_20 : decode prog_3_method_8_code 20 = .ok (.iconst (-1), 1) := by decide +kernel
theorem d22_21 : decode prog_3_method_8_code 21 = .ok (.ixor, 1) := by decide +kernel
theorem d22_22 : decode prog_3_method_8_code 22 = .ok (.iand, 1) := by decide +kernel
theorem d22_23 : decode prog_3_method_8_code 23 = .ok (.ifCond .ne 14, 3) := by decide +kernel
theorem d22_26 : decode prog_3_method_8_code 26 = .ok (.iload 4, 2) := by decide +kernel
theorem d22_28 : decode prog_3_method_8_code 28 = .ok (.iload_n 2, 1) := by decide +kernel
theorem d22_29 : decode prog_3_method_8_code 29 = .ok (.iand, 1) := by decide +kernel
theorem d22_30 : decode prog_3_method_8_code 30 = .ok (.ifCond .eq 7, 3) := by decide +kernel
theorem d22_33 : decode prog_3_method_8_code 33 = .ok (.iconst 1, 1) := by decide +kernel
theorem d22_34 : decode prog_3_method_8_code 34 = .ok (.goto 4, 3) := by decide +kernel
theorem d22_37 : decode prog_3_method_8_code 37 = .ok (.iconst 0, 1) := by decide +kernel
theorem d22_38 : decode prog_3_method_8_code 38 = .ok (.istore 5, 2) := by decide +kernel
theorem d22_40 : decode prog_3_method_8_code 40 = .ok (.iload 5, 2) := by decide +kernel
theorem d22_42 : decode prog_3_method_8_code 42 = .ok (.ifCond .eq 34, 3) := by decide +kernel
theorem d22_45 : decode prog_3_method_8_code 45 = .ok (.aload_n 0, 1) := by decide +kernel
theorem d22_46 : decode prog_3_method_8_code 46 = .ok (.iload 4, 2) := by decide +kernel
theorem d22_48 : decode prog_3_method_8_code 48 = .ok (.invokevirtual 46, 3) := by decide +kernel
theorem d22_51 : decode prog_3_method_8_code 51 = .ok (.ifCond .eq 25, 3) := by decide +kernel
theorem d22_54 : decode prog_3_method_8_code 54 = .ok (.iload_n 3, 1) := by decide +kernel
theorem d22_55 : decode prog_3_method_8_code 55 = .ok (.iconst 1, 1) := by decide +kernel
theorem d22_56 : decode prog_3_method_8_code 56 = .ok (.aload_n 0, 1) := by decide +kernel
theorem d22_57 : decode prog_3_method_8_code 57 = .ok (.getfield 15, 3) := by decide +kernel
theorem d22_60 : decode prog_3_method_8_code 60 = .ok (.iload_n 1, 1) := by decide +kernel
theorem d22_61 : decode prog_3_method_8_code 61 = .ok (.iload 4, 2) := by decide +kernel
theorem d22_63 : decode prog_3_method_8_code 63 = .ok (.iconst (-1), 1) := by decide +kernel
theorem d22_64 : decode prog_3_method_8_code 64 = .ok (.ixor, 1) := by decide +kernel
theorem d22_65 : decode prog_3_method_8_code 65 = .ok (.iand, 1) := by decide +kernel
theorem d22_66 : decode prog_3_method_8_code 66 = .ok (.sipush 255, 3) := by decide +kernel
theorem d22_69 : decode prog_3_method_8_code 69 = .ok (.iand, 1) := by decide +kernel
theorem d22_70 : decode prog_3_method_8_code 70 = .ok (.iaload, 1) := by decide +kernel
theorem d22_71 : decode prog_3_method_8_code 71 = .ok (.iadd, 1) := by decide +kernel
theorem d22_72 : decode prog_3_method_8_code 72 = .ok (.invokestatic 52, 3) := by decide +kernel
theorem d22_75 : decode prog_3_method_8_code 75 = .ok (.istore_n 3, 1) := by decide +kernel
theorem d22_76 : decode prog_3_method_8_code 76 = .ok (.iinc 4 1, 3) := by decide +kernel
theorem d22_79 : decode prog_3_method_8_code 79 = .ok (.goto (-68), 3) := by decide +kernel
theorem d22_82 : decode prog_3_method_8_code 82 = .ok (.iload_n 3, 1) := by decide +kernel
theorem d22_83 : decode prog_3_method_8_code 83 = .ok (.ireturn, 1) := by decide +kernel
theorem b22 {X : mj_X} {d : Nat} {w : mj_W} {x0 : Nat} {x1 : Int32} : mj_call X d 22 [.ref x0, .int x1] w = mj_exec X d 22 0 [some (.ref x0), some (.int x1), none, none, none, none] [] w := mw_ent mw_m22 (Nat.le_of_ble_eq_true rfl) rfl
theorem b22_0 {X : mj_X} {d : Nat} {s : mw_S} {x1 : Int32} {l2 : Option Value} {l3 : Option Value} {l4 : Option Value} {l5 : Option Value}  : mj_exec X d 22 0 [some (.ref 31), some (.int x1), l2, l3, l4, l5] [] (mw_U s) = mj_exec X d 22 11 [some (.ref 31), some (.int x1), some (.int (x1 &&& (-x1))), some (.int (nI 8)), some (.int (x1 &&& (-x1))), l5] [] (mw_U s) := (mj_q_iload_n mw_m22 d22_0 rfl).trans ((mj_q_iload_n mw_m22 d22_1 rfl).trans ((mj_q_ineg mw_m22 d22_2).trans ((mj_q_iand mw_m22 d22_3).trans ((mj_q_istore_n mw_m22 d22_4 (Nat.le_of_ble_eq_true rfl) rfl rfl).trans ((mj_q_bipush mw_m22 d22_5 mw_k_bipush_8).trans ((mj_q_istore_n mw_m22 d22_7 (Nat.le_of_ble_eq_true rfl) rfl rfl).trans ((mj_q_iload_n mw_m22 d22_8 rfl).trans (mj_q_istore mw_m22 d22_9 (Nat.le_of_ble_eq_true rfl) rfl rfl))))))))
theorem b22_11 {X : mj_X} {d : Nat} {s : mw_S} {x1 : Int32} {x2 : Int32} {x3 : Int32} {x4 : Int32} {l5 : Option Value}  : mj_exec X d 22 11 [some (.ref 31), some (.int x1), some (.int x2), some (.int x3), some (.int x4), l5] [] (mw_U s) = if x1 < x4 then mj_exec X d 22 82 [some (.ref 31), some (.int x1), some (.int x2), some (.int x3), some (.int x4), l5] [] (mw_U s) else mj_exec X d 22 17 [some (.ref 31), some (.int x1), some (.int x2), some (.int x3), some (.int x4), l5] [] (mw_U s) := (mj_q_iload mw_m22 d22_11 rfl).trans ((mj_q_iload_n mw_m22 d22_13 rfl).trans (mj_q_icmp_gt mw_m22 d22_14 rfl))
theorem b22_17 {X : mj_X} {d : Nat} {s : mw_S} {x1 : Int32} {x2 : Int32} {x3 : Int32} {x4 : Int32} {l5 : Option Value}  : mj_exec X d 22 17 [some (.ref 31), some (.int x1), some (.int x2), some (.int x3), some (.int x4), l5] [] (mw_U s) = if (x4 &&& (x1 ^^^ (-1))) = 0 then mj_exec X d 22 26 [some (.ref 31), some (.int x1), some (.int x2), some (.int x3), some (.int x4), l5] [] (mw_U s) else mj_exec X d 22 37 [some (.ref 31), some (.int x1), some (.int x2), some (.int x3), some (.int x4), l5] [] (mw_U s) := (mj_q_iload mw_m22 d22_17 rfl).trans ((mj_q_iload_n mw_m22 d22_19 rfl).trans ((mj_q_iconst mw_m22 d22_20 mw_k_iconst_m1).trans ((mj_q_ixor mw_m22 d22_21).trans ((mj_q_iand mw_m22 d22_22).trans (mj_q_if_ne mw_m22 d22_23 rfl)))))
theorem b22_26 {X : mj_X} {d : Nat} {s : mw_S} {x1 : Int32} {x2 : Int32} {x3 : Int32} {x4 : Int32} {l5 : Option Value}  : mj_exec X d 22 26 [some (.ref 31), some (.int x1), some (.int x2), some (.int x3), some (.int x4), l5] [] (mw_U s) = if (x4 &&& x2) = 0 then mj_exec X d 22 37 [some (.ref 31), some (.int x1), some (.int x2), some (.int x3), some (.int x4), l5] [] (mw_U s) else mj_exec X d 22 33 [some (.ref 31), some (.int x1), some (.int x2), some (.int x3), some (.int x4), l5] [] (mw_U s) := (mj_q_iload mw_m22 d22_26 rfl).trans ((mj_q_iload_n mw_m22 d22_28 rfl).trans ((mj_q_iand mw_m22 d22_29).trans (mj_q_if_eq mw_m22 d22_30 rfl)))
theorem b22_33 {X : mj_X} {d : Nat} {s : mw_S} {x1 : Int32} {x2 : Int32} {x3 : Int32} {x4 : Int32} {l5 : Option Value}  : mj_exec X d 22 33 [some (.ref 31), some (.int x1), some (.int x2), some (.int x3), some (.int x4), l5] [] (mw_U s) = mj_exec X d 22 38 [some (.ref 31), some (.int x1), some (.int x2), some (.int x3), some (.int x4), l5] [.int (nI 1)] (mw_U s) := (mj_q_iconst mw_m22 d22_33 mw_k_iconst_1).trans (mj_q_goto mw_m22 d22_34 rfl)
theorem b22_37 {X : mj_X} {d : Nat} {s : mw_S} {x1 : Int32} {x2 : Int32} {x3 : Int32} {x4 : Int32} {l5 : Option Value}  : mj_exec X d 22 37 [some (.ref 31), some (.int x1), some (.int x2), some (.int x3), some (.int x4), l5] [] (mw_U s) = mj_exec X d 22 38 [some (.ref 31), some (.int x1), some (.int x2), some (.int x3), some (.int x4), l5] [.int (nI 0)] (mw_U s) := mj_q_iconst mw_m22 d22_37 mw_k_iconst_0
theorem b22_38 {X : mj_X} {d : Nat} {s : mw_S} {x1 : Int32} {x2 : Int32} {x3 : Int32} {x4 : Int32} {l5 : Option Value} {xs0 : Int32}  : mj_exec X d 22 38 [some (.ref 31), some (.int x1), some (.int x2), some (.int x3), some (.int x4), l5] [.int xs0] (mw_U s) = if xs0 = 0 then mj_exec X d 22 76 [some (.ref 31), some (.int x1), some (.int x2), some (.int x3), some (.int x4), some (.int xs0)] [] (mw_U s) else mj_exec X d 22 45 [some (.ref 31), some (.int x1), some (.int x2), some (.int x3), some (.int x4), some (.int xs0)] [] (mw_U s) := (mj_q_istore mw_m22 d22_38 (Nat.le_of_ble_eq_true rfl) rfl rfl).trans ((mj_q_iload mw_m22 d22_40 rfl).trans (mj_q_if_eq mw_m22 d22_42 rfl))
theorem b22_45 {X : mj_X} {d : Nat} {s : mw_S} {x1 : Int32} {x2 : Int32} {x3 : Int32} {x4 : Int32} {x5 : Int32}  : mj_exec X (d + 1) 22 45 [some (.ref 31), some (.int x1), some (.int x2), some (.int x3), some (.int x4), some (.int x5)] [] (mw_U s) = (mj_call X d 23 [.ref 31, .int x4] (mw_U s)).bind (mj_bk X (d + 1) 22 51 [some (.ref 31), some (.int x1), some (.int x2), some (.int x3), some (.int x4), some (.int x5)] []) := (mj_q_aload_n mw_m22 d22_45 rfl (by decide)).trans ((mj_q_iload mw_m22 d22_46 rfl).trans (mw_q_callv mw_m22 rfl d22_48 mw_p1_46 mw_m23 rfl rfl (Nat.le_of_ble_eq_true rfl) (Nat.le_of_ble_eq_true rfl) rfl (mw_rcv mw_c_31) rfl rfl))
theorem b22_51 {X : mj_X} {d : Nat} {s : mw_S} {x1 : Int32} {x2 : Int32} {x3 : Int32} {x4 : Int32} {x5 : Int32} {xs0 : Int32}  : mj_exec X d 22 51 [some (.ref 31), some (.int x1), some (.int x2), some (.int x3), some (.int x4), some (.int x5)] [.int xs0] (mw_U s) = if xs0 = 0 then mj_exec X d 22 76 [some (.ref 31), some (.int x1), some (.int x2), some (.int x3), some (.int x4), some (.int x5)] [] (mw_U s) else mj_exec X d 22 54 [some (.ref 31), some (.int x1), some (.int x2), some (.int x3), some (.int x4), some (.int x5)] [] (mw_U s) := mj_q_if_eq mw_m22 d22_51 rfl
theorem b22_54 {X : mj_X} {d : Nat} {s : mw_S} {x1 : Int32} {x2 : Int32} {x3 : Int32} {x4 : Int32} {x5 : Int32}  : mj_exec X d 22 54 [some (.ref 31), some (.int x1), some (.int x2), some (.int x3), some (.int x4), some (.int x5)] [] (mw_U s) = if mw_in 256 ((x1 &&& (x4 ^^^ (-1))) &&& (nI 255)) = true then mj_exec X d 22 76 [some (.ref 31), some (.int x1), some (.int x2), some (.int (mw_min x3 ((nI 1) + (s.1 33 (((x1 &&& (x4 ^^^ (-1))) &&& (nI 255))).toNatClampNeg)))), some (.int x4), some (.int x5)] [] (mw_U s) else none := (mj_q_iload_n mw_m22 d22_54 rfl).trans ((mj_q_iconst mw_m22 d22_55 mw_k_iconst_1).trans ((mj_q_aload_n mw_m22 d22_56 rfl (by decide)).trans ((mw_q_getr mw_m22 d22_57 mw_p1_15 mw_c_31 mw_f_31_1).trans ((mj_q_iload_n mw_m22 d22_60 rfl).trans ((mj_q_iload mw_m22 d22_61 rfl).trans ((mj_q_iconst mw_m22 d22_63 mw_k_iconst_m1).trans ((mj_q_ixor mw_m22 d22_64).trans ((mj_q_iand mw_m22 d22_65).trans ((mj_q_sipush mw_m22 d22_66 mw_k_sipush_255).trans ((mj_q_iand mw_m22 d22_69).trans ((mw_h_iald mw_m22 d22_70 mw_r_33).trans (mw_g ((mj_q_iadd mw_m22 d22_71).trans ((mj_q_min mw_m22 d22_72 mw_p1_52 (Nat.le_of_ble_eq_true rfl)).trans (mj_q_istore_n mw_m22 d22_75 (Nat.le_of_ble_eq_true rfl) rfl rfl)))))))))))))))
theorem b22_76 {X : mj_X} {d : Nat} {s : mw_S} {x1 : Int32} {x2 : Int32} {x3 : Int32} {x4 : Int32} {x5 : Int32}  : mj_exec X d 22 76 [some (.ref 31), some (.int x1), some (.int x2), some (.int x3), some (.int x4), some (.int x5)] [] (mw_U s) = mj_exec X d 22 11 [some (.ref 31), some (.int x1), some (.int x2), some (.int x3), some (.int (x4 + (nI 1))), some (.int x5)] [] (mw_U s) := (mj_q_iinc mw_m22 d22_76 rfl (Nat.le_of_ble_eq_true rfl) rfl mw_k_iconst_1 rfl).trans (mj_q_goto mw_m22 d22_79 rfl)
theorem b22_82 {X : mj_X} {d : Nat} {s : mw_S} {x1 : Int32} {x2 : Int32} {x3 : Int32} {x4 : Int32} {l5 : Option Value}  : mj_exec X d 22 82 [some (.ref 31), some (.int x1), some (.int x2), some (.int x3), some (.int x4), l5] [] (mw_U s) = some (.inl (some (.int x3)), mw_U s) := (mj_q_iload_n mw_m22 d22_82 rfl).trans (mj_q_iret mw_m22 d22_83 rfl)
/-- WivesQuarrels$Circle.isPeaceful -/
theorem d23_0 : decode prog_3_method_4_code 0 = .ok (.aload_n 0, 1) := by decide +kernel
theorem d23_1 : decode prog_3_method_4_code 1 = .ok (.iload_n 1, 1) := by decide +kernel
theorem d23_2 : decode prog_3_method_4_code 2 = .ok (.invokevirtual 34, 3) := by decide +kernel
theorem d23_5 : decode prog_3_method_4_code 5 = .ok (.iload_n 1, 1) := by decide +kernel
theorem d23_6 : decode prog_3_method_4_code 6 = .ok (.iand, 1) := by decide +kernel
theorem d23_7 : decode prog_3_method_4_code 7 = .ok (.ifCond .ne 7, 3) := by decide +kernel
theorem d23_10 : decode prog_3_method_4_code 10 = .ok (.iconst 1, 1) := by decide +kernel
theorem d23_11 : decode prog_3_method_4_code 11 = .ok (.goto 4, 3) := by decide +kernel
theorem d23_14 : decode prog_3_method_4_code 14 = .ok (.iconst 0, 1) := by decide +kernel
theorem d23_15 : decode prog_3_method_4_code 15 = .ok (.ireturn, 1) := by decide +kernel
theorem b23 {X : mj_X} {d : Nat} {w : mj_W} {x0 : Nat} {x1 : Int32} : mj_call X d 23 [.ref x0, .int x1] w = mj_exec X d 23 0 [some (.ref x0), some (.int x1)] [] w := mw_ent mw_m23 (Nat.le_of_ble_eq_true rfl) rfl
theorem b23_0 {X : mj_X} {d : Nat} {s : mw_S} {x1 : Int32}  : mj_exec X (d + 1) 23 0 [some (.ref 31), some (.int x1)] [] (mw_U s) = (mj_call X d 17 [.ref 31, .int x1] (mw_U s)).bind (mj_bk X (d + 1) 23 5 [some (.ref 31), some (.int x1)] []) := (mj_q_aload_n mw_m23 d23_0 rfl (by decide)).trans ((mj_q_iload_n mw_m23 d23_1 rfl).trans (mw_q_callv mw_m23 rfl d23_2 mw_p1_34 mw_m17 rfl rfl (Nat.le_of_ble_eq_true rfl) (Nat.le_of_ble_eq_true rfl) rfl (mw_rcv mw_c_31) rfl rfl))
theorem b23_5 {X : mj_X} {d : Nat} {s : mw_S} {x1 : Int32} {xs0 : Int32}  : mj_exec X d 23 5 [some (.ref 31), some (.int x1)] [.int xs0] (mw_U s) = if (xs0 &&& x1) = 0 then mj_exec X d 23 10 [some (.ref 31), some (.int x1)] [] (mw_U s) else mj_exec X d 23 14 [some (.ref 31), some (.int x1)] [] (mw_U s) := (mj_q_iload_n mw_m23 d23_5 rfl).trans ((mj_q_iand mw_m23 d23_6).trans (mj_q_if_ne mw_m23 d23_7 rfl))
theorem b23_10 {X : mj_X} {d : Nat} {s : mw_S} {x1 : Int32}  : mj_exec X d 23 10 [some (.ref 31), some (.int x1)] [] (mw_U s) = mj_exec X d 23 15 [some (.ref 31), some (.int x1)] [.int (nI 1)] (mw_U s) := (mj_q_iconst mw_m23 d23_10 mw_k_iconst_1).trans (mj_q_goto mw_m23 d23_11 rfl)
theorem b23_14 {X : mj_X} {d : Nat} {s : mw_S} {x1 : Int32}  : mj_exec X d 23 14 [some (.ref 31), some (.int x1)] [] (mw_U s) = mj_exec X d 23 15 [some (.ref 31), some (.int x1)] [.int (nI 0)] (mw_U s) := mj_q_iconst mw_m23 d23_14 mw_k_iconst_0
theorem b23_15 {X : mj_X} {d : Nat} {s : mw_S} {x1 : Int32} {xs0 : Int32}  : mj_exec X d 23 15 [some (.ref 31), some (.int x1)] [.int xs0] (mw_U s) = if mj_rfit (some .boolean) xs0 = true then some (.inl (some (.int xs0)), mw_U s) else none := mw_h_iret mw_m23 d23_15 rfl
/-- WivesQuarrels$Circle.mostAsked -/
theorem d24_0 : decode prog_3_method_6_code 0 = .ok (.iconst 0, 1) := by decide +kernel
theorem d24_1 : decode prog_3_method_6_code 1 = .ok (.istore_n 1, 1) := by decide +kernel
theorem d24_2 : decode prog_3_method_6_code 2 = .ok (.iconst 1, 1) := by decide +kernel
theorem d24_3 : decode prog_3_method_6_code 3 = .ok (.istore_n 2, 1) := by decide +kernel
theorem d24_4 : decode prog_3_method_6_code 4 = .ok (.iload_n 2, 1) := by decide +kernel
theorem d24_5 : decode prog_3_method_6_code 5 = .ok (.sipush 255, 3) := by decide +kernel
theorem d24_8 : decode prog_3_method_6_code 8 = .ok (.if_icmp .gt 48, 3) := by decide +kernel
theorem d24_11 : decode prog_3_method_6_code 11 = .ok (.iload_n 2, 1) := by decide +kernel
theorem d24_12 : decode prog_3_method_6_code 12 = .ok (.invokestatic 37, 3) := by decide +kernel
theorem d24_15 : decode prog_3_method_6_code 15 = .ok (.iload_n 1, 1) := by decide +kernel
theorem d24_16 : decode prog_3_method_6_code 16 = .ok (.invokestatic 37, 3) := by decide +kernel
theorem d24_19 : decode prog_3_method_6_code 19 = .ok (.if_icmp .le 7, 3) := by decide +kernel
theorem d24_22 : decode prog_3_method_6_code 22 = .ok (.iconst 1, 1) := by decide +kernel
theorem d24_23 : decode prog_3_method_6_code 23 = .ok (.goto 4, 3) := by decide +kernel
theorem d24_26 : decode prog_3_method_6_code 26 = .ok (.iconst 0, 1) := by decide +kernel
theorem d24_27 : decode prog_3_method_6_code 27 = .ok (.istore_n 3, 1) := by decide +kernel
theorem d24_28 : decode prog_3_method_6_code 28 = .ok (.iload_n 3, 1) := by decide +kernel
theorem d24_29 : decode prog_3_method_6_code 29 = .ok (.ifCond .eq 21, 3) := by decide +kernel
theorem d24_32 : decode prog_3_method_6_code 32 = .ok (.aload_n 0, 1) := by decide +kernel
theorem d24_33 : decode prog_3_method_6_code 33 = .ok (.iload_n 2, 1) := by decide +kernel
theorem d24_34 : decode prog_3_method_6_code 34 = .ok (.invokevirtual 42, 3) := by decide +kernel
theorem d24_37 : decode prog_3_method_6_code 37 = .ok (.ifCond .eq 13, 3) := by decide +kernel
theorem d24_40 : decode prog_3_method_6_code 40 = .ok (.aload_n 0, 1) := by decide +kernel
theorem d24_41 : decode prog_3_method_6_code 41 = .ok (.iload_n 2, 1) := by decide +kernel
theorem d24_42 : decode prog_3_method_6_code 42 = .ok (.invokevirtual 46, 3) := by decide +kernel
theorem d24_45 : decode prog_3_method_6_code 45 = .ok (.ifCond .eq 5, 3) := by decide +kernel
theorem d24_48 : decode prog_3_method_6_code 48 = .ok (.iload_n 2, 1) := by decide +kernel
theorem d24_49 : decode prog_3_method_6_code 49 = .ok (.istore_n 1, 1) := by decide +kernel
theorem d24_50 : decode prog_3_method_6_code 50 = .ok (.iinc 2 1, 3) := by decide +kernel
theorem d24_53 : decode prog_3_method_6_code 53 = .ok (.goto (-49), 3) := by decide +kernel
theorem d24_56 : decode prog_3_method_6_code 56 = .ok (.iload_n 1, 1) := by decide +kernel
theorem d24_57 : decode prog_3_method_6_code 57 = .ok (.ireturn, 1) := by decide +kernel
theorem b24 {X : mj_X} {d : Nat} {w : mj_W} {x0 : Nat} : mj_call X d 24 [.ref x0] w = mj_exec X d 24 0 [some (.ref x0), none, none, none] [] w := mw_ent mw_m24 (Nat.le_of_ble_eq_true rfl) rfl
theorem b24_0 {X : mj_X} {d : Nat} {s : mw_S} {l1 : Option Value} {l2 : Option Value} {l3 : Option Value}  : mj_exec X d 24 0 [some (.ref 31), l1, l2, l3] [] (mw_U s) = mj_exec X d 24 4 [some (.ref 31), some (.int (nI 0)), some (.int (nI 1)), l3] [] (mw_U s) := (mj_q_iconst mw_m24 d24_0 mw_k_iconst_0).trans ((mj_q_istore_n mw_m24 d24_1 (Nat.le_of_ble_eq_true rfl) rfl rfl).trans ((mj_q_iconst mw_m24 d24_2 mw_k_iconst_1).trans (mj_q_istore_n mw_m24 d24_3 (Nat.le_of_ble_eq_true rfl) rfl rfl)))
theorem b24_4 {X : mj_X} {d : Nat} {s : mw_S} {x1 : Int32} {x2 : Int32} {l3 : Option Value}  : mj_exec X d 24 4 [some (.ref 31), some (.int x1), some (.int x2), l3] [] (mw_U s) = if (nI 255) < x2 then mj_exec X d 24 56 [some (.ref 31), some (.int x1), some (.int x2), l3] [] (mw_U s) else mj_exec X d 24 11 [some (.ref 31), some (.int x1), some (.int x2), l3] [] (mw_U s) := (mj_q_iload_n mw_m24 d24_4 rfl).trans ((mj_q_sipush mw_m24 d24_5 mw_k_sipush_255).trans (mj_q_icmp_gt mw_m24 d24_8 rfl))
theorem b24_11 {X : mj_X} {d : Nat} {s : mw_S} {x1 : Int32} {x2 : Int32} {l3 : Option Value}  : mj_exec X (d + 1) 24 11 [some (.ref 31), some (.int x1), some (.int x2), l3] [] (mw_U s) = (mj_call X d 348 [.int x2] (mw_U s)).bind (mj_bk X (d + 1) 24 15 [some (.ref 31), some (.int x1), some (.int x2), l3] []) := (mj_q_iload_n mw_m24 d24_11 rfl).trans (mw_q_calls mw_m24 rfl d24_12 mw_p1_37 mw_m348 rfl (Nat.le_of_ble_eq_true rfl) (Nat.le_of_ble_eq_true rfl) rfl rfl)
theorem b24_15 {X : mj_X} {d : Nat} {s : mw_S} {x1 : Int32} {x2 : Int32} {l3 : Option Value} {xs0 : Int32}  : mj_exec X (d + 1) 24 15 [some (.ref 31), some (.int x1), some (.int x2), l3] [.int xs0] (mw_U s) = (mj_call X d 348 [.int x1] (mw_U s)).bind (mj_bk X (d + 1) 24 19 [some (.ref 31), some (.int x1), some (.int x2), l3] [.int xs0]) := (mj_q_iload_n mw_m24 d24_15 rfl).trans (mw_q_calls mw_m24 rfl d24_16 mw_p1_37 mw_m348 rfl (Nat.le_of_ble_eq_true rfl) (Nat.le_of_ble_eq_true rfl) rfl rfl)
theorem b24_19 {X : mj_X} {d : Nat} {s : mw_S} {x1 : Int32} {x2 : Int32} {l3 : Option Value} {xs0 : Int32} {xs1 : Int32}  : mj_exec X d 24 19 [some (.ref 31), some (.int x1), some (.int x2), l3] [.int xs1, .int xs0] (mw_U s) = if xs0 ≤ xs1 then mj_exec X d 24 26 [some (.ref 31), some (.int x1), some (.int x2), l3] [] (mw_U s) else mj_exec X d 24 22 [some (.ref 31), some (.int x1), some (.int x2), l3] [] (mw_U s) := mj_q_icmp_le mw_m24 d24_19 rfl
theorem b24_22 {X : mj_X} {d : Nat} {s : mw_S} {x1 : Int32} {x2 : Int32} {l3 : Option Value}  : mj_exec X d 24 22 [some (.ref 31), some (.int x1), some (.int x2), l3] [] (mw_U s) = mj_exec X d 24 27 [some (.ref 31), some (.int x1), some (.int x2), l3] [.int (nI 1)] (mw_U s) := (mj_q_iconst mw_m24 d24_22 mw_k_iconst_1).trans (mj_q_goto mw_m24 d24_23 rfl)
theorem b24_26 {X : mj_X} {d : Nat} {s : mw_S} {x1 : Int32} {x2 : Int32} {l3 : Option Value}  : mj_exec X d 24 26 [some (.ref 31), some (.int x1), some (.int x2), l3] [] (mw_U s) = mj_exec X d 24 27 [some (.ref 31), some (.int x1), some (.int x2), l3] [.int (nI 0)] (mw_U s) := mj_q_iconst mw_m24 d24_26 mw_k_iconst_0
theorem b24_27 {X : mj_X} {d : Nat} {s : mw_S} {x1 : Int32} {x2 : Int32} {l3 : Option Value} {xs0 : Int32}  : mj_exec X d 24 27 [some (.ref 31), some (.int x1), some (.int x2), l3] [.int xs0] (mw_U s) = if xs0 = 0 then mj_exec X d 24 50 [some (.ref 31), some (.int x1), some (.int x2), some (.int xs0)] [] (mw_U s) else mj_exec X d 24 32 [some (.ref 31), some (.int x1), some (.int x2), some (.int xs0)] [] (mw_U s) := (mj_q_istore_n mw_m24 d24_27 (Nat.le_of_ble_eq_true rfl) rfl rfl).trans ((mj_q_iload_n mw_m24 d24_28 rfl).trans (mj_q_if_eq mw_m24 d24_29 rfl))
theorem b24_32 {X : mj_X} {d : Nat} {s : mw_S} {x1 : Int32} {x2 : Int32} {x3 : Int32}  : mj_exec X (d + 1) 24 32 [some (.ref 31), some (.int x1), some (.int x2), some (.int x3)] [] (mw_U s) = (mj_call X d 21 [.ref 31, .int x2] (mw_U s)).bind (mj_bk X (d + 1) 24 37 [some (.ref 31), some (.int x1), some (.int x2), some (.int x3)] []) := (mj_q_aload_n mw_m24 d24_32 rfl (by decide)).trans ((mj_q_iload_n mw_m24 d24_33 rfl).trans (mw_q_callv mw_m24 rfl d24_34 mw_p1_42 mw_m21 rfl rfl (Nat.le_of_ble_eq_true rfl) (Nat.le_of_ble_eq_true rfl) rfl (mw_rcv mw_c_31) rfl rfl))
theorem b24_37 {X : mj_X} {d : Nat} {s : mw_S} {x1 : Int32} {x2 : Int32} {x3 : Int32} {xs0 : Int32}  : mj_exec X d 24 37 [some (.ref 31), some (.int x1), some (.int x2), some (.int x3)] [.int xs0] (mw_U s) = if xs0 = 0 then mj_exec X d 24 50 [some (.ref 31), some (.int x1), some (.int x2), some (.int x3)] [] (mw_U s) else mj_exec X d 24 40 [some (.ref 31), some (.int x1), some (.int x2), some (.int x3)] [] (mw_U s) := mj_q_if_eq mw_m24 d24_37 rfl
theorem b24_40 {X : mj_X} {d : Nat} {s : mw_S} {x1 : Int32} {x2 : Int32} {x3 : Int32}  : mj_exec X (d + 1) 24 40 [some (.ref 31), some (.int x1), some (.int x2), some (.int x3)] [] (mw_U s) = (mj_call X d 23 [.ref 31, .int x2] (mw_U s)).bind (mj_bk X (d + 1) 24 45 [some (.ref 31), some (.int x1), some (.int x2), some (.int x3)] []) := (mj_q_aload_n mw_m24 d24_40 rfl (by decide)).trans ((mj_q_iload_n mw_m24 d24_41 rfl).trans (mw_q_callv mw_m24 rfl d24_42 mw_p1_46 mw_m23 rfl rfl (Nat.le_of_ble_eq_true rfl) (Nat.le_of_ble_eq_true rfl) rfl (mw_rcv mw_c_31) rfl rfl))
theorem b24_45 {X : mj_X} {d : Nat} {s : mw_S} {x1 : Int32} {x2 : Int32} {x3 : Int32} {xs0 : Int32}  : mj_exec X d 24 45 [some (.ref 31), some (.int x1), some (.int x2), some (.int x3)] [.int xs0] (mw_U s) = if xs0 = 0 then mj_exec X d 24 50 [some (.ref 31), some (.int x1), some (.int x2), some (.int x3)] [] (mw_U s) else mj_exec X d 24 48 [some (.ref 31), some (.int x1), some (.int x2), some (.int x3)] [] (mw_U s) := mj_q_if_eq mw_m24 d24_45 rfl
theorem b24_48 {X : mj_X} {d : Nat} {s : mw_S} {x1 : Int32} {x2 : Int32} {x3 : Int32}  : mj_exec X d 24 48 [some (.ref 31), some (.int x1), some (.int x2), some (.int x3)] [] (mw_U s) = mj_exec X d 24 50 [some (.ref 31), some (.int x2), some (.int x2), some (.int x3)] [] (mw_U s) := (mj_q_iload_n mw_m24 d24_48 rfl).trans (mj_q_istore_n mw_m24 d24_49 (Nat.le_of_ble_eq_true rfl) rfl rfl)
theorem b24_50 {X : mj_X} {d : Nat} {s : mw_S} {x1 : Int32} {x2 : Int32} {x3 : Int32}  : mj_exec X d 24 50 [some (.ref 31), some (.int x1), some (.int x2), some (.int x3)] [] (mw_U s) = mj_exec X d 24 4 [some (.ref 31), some (.int x1), some (.int (x2 + (nI 1))), some (.int x3)] [] (mw_U s) := (mj_q_iinc mw_m24 d24_50 rfl (Nat.le_of_ble_eq_true rfl) rfl mw_k_iconst_1 rfl).trans (mj_q_goto mw_m24 d24_53 rfl)
theorem b24_56 {X : mj_X} {d : Nat} {s : mw_S} {x1 : Int32} {x2 : Int32} {l3 : Option Value}  : mj_exec X d 24 56 [some (.ref 31), some (.int x1), some (.int x2), l3] [] (mw_U s) = some (.inl (some (.int x1)), mw_U s) := (mj_q_iload_n mw_m24 d24_56 rfl).trans (mj_q_iret mw_m24 d24_57 rfl)
/-- WivesQuarrels$Circle.steps -/
theorem d25_0 : decode prog_3_method_10_code 0 = .ok (.iload_n 1, 1) := by decide +kernel
theorem d25_1 : decode prog_3_method_10_code 1 = .ok (.aload_n 0, 1) := by decide +kernel
theorem d25_2 : decode prog_3_method_10_code 2 = .ok (.getfield 18, 3) := by decide +kernel
theorem d25_5 : decode prog_3_method_10_code 5 = .ok (.invokestatic 30, 3) := by decide +kernel
theorem d25_8 : decode prog_3_method_10_code 8 = .ok (.ifCond .eq 14, 3) := by decide +kernel
theorem d25_11 : decode prog_3_method_10_code 11 = .ok (.iload_n 2, 1) := by decide +kernel
theorem d25_12 : decode prog_3_method_10_code 12 = .ok (.aload_n 0, 1) := by decide +kernel
theorem d25_13 : decode prog_3_method_10_code 13 = .ok (.getfield 18, 3) := by decide +kernel
theorem d25_16 : decode prog_3_method_10_code 16 = .ok (.invokestatic 30, 3) := by decide +kernel
theorem d25_19 : decode prog_3_method_10_code 19 = .ok (.ifCond .ne 5, 3) := by decide +kernel
theorem d25_22 : decode prog_3_method_10_code 22 = .ok (.iconst (-1), 1) := by decide +kernel
theorem d25_23 : decode prog_3_method_10_code 23 = .ok (.ireturn, 1) := by decide +kernel
theorem d25_24 : decode prog_3_method_10_code 24 = .ok (.iconst 1, 1) := by decide +kernel
theorem d25_25 : decode prog_3_method_10_code 25 = .ok (.iload_n 1, 1) := by decide +kernel
theorem d25_26 : decode prog_3_method_10_code 26 = .ok (.ishl, 1) := by decide +kernel
theorem d25_27 : decode prog_3_method_10_code 27 = .ok (.istore_n 3, 1) := by decide +kernel
theorem d25_28 : decode prog_3_method_10_code 28 = .ok (.iconst 0, 1) := by decide +kernel
theorem d25_29 : decode prog_3_method_10_code 29 = .ok (.istore 4, 2) := by decide +kernel
theorem d25_31 : decode prog_3_method_10_code 31 = .ok (.iload 4, 2) := by decide +kernel
theorem d25_33 : decode prog_3_method_10_code 33 = .ok (.bipush 8, 2) := by decide +kernel
theorem d25_35 : decode prog_3_method_10_code 35 = .ok (.if_icmp .ge 28, 3) := by decide +kernel
theorem d25_38 : decode prog_3_method_10_code 38 = .ok (.iload_n 2, 1) := by decide +kernel
theorem d25_39 : decode prog_3_method_10_code 39 = .ok (.iload_n 3, 1) := by decide +kernel
theorem d25_40 : decode prog_3_method_10_code 40 = .ok (.invokestatic 30, 3) := by decide +kernel
theorem d25_43 : decode prog_3_method_10_code 43 = .ok (.ifCond .eq 6, 3) := by decide +kernel
theorem d25_46 : decode prog_3_method_10_code 46 = .ok (.iload 4, 2) := by decide +kernel
theorem d25_48 : decode prog_3_method_10_code 48 = .ok (.ireturn, 1) := by decide +kernel
theorem d25_49 : decode prog_3_method_10_code 49 = .ok (.iload_n 3, 1) := by decide +kernel
theorem d25_50 : decode prog_3_method_10_code 50 = .ok (.aload_n 0, 1) := by decide +kernel
theorem d25_51 : decode prog_3_method_10_code 51 = .ok (.iload_n 3, 1) := by decide +kernel
theorem d25_52 : decode prog_3_method_10_code 52 = .ok (.invokevirtual 58, 3) := by decide +kernel
theorem d25_55 : decode prog_3_method_10_code 55 = .ok (.ior, 1) := by decide +kernel
theorem d25_56 : decode prog_3_method_10_code 56 = .ok (.istore_n 3, 1) := by decide +kernel
theorem d25_57 : decode prog_3_method_10_code 57 = .ok (.iinc 4 1, 3) := by decide +kernel
theorem d25_60 : decode prog_3_method_10_code 60 = .ok (.goto (-29), 3) := by decide +kernel
theorem d25_63 : decode prog_3_method_10_code 63 = .ok (.iconst (-1), 1) := by decide +kernel
theorem d25_64 : decode prog_3_method_10_code 64 = .ok (.ireturn, 1) := by decide +kernel
theorem b25 {X : mj_X} {d : Nat} {w : mj_W} {x0 : Nat} {x1 : Int32} {x2 : Int32} : mj_call X d 25 [.ref x0, .int x1, .int x2] w = mj_exec X d 25 0 [some (.ref x0), some (.int x1), some (.int x2), none, none] [] w := mw_ent mw_m25 (Nat.le_of_ble_eq_true rfl) rfl
theorem b25_0 {X : mj_X} {d : Nat} {s : mw_S} {x1 : Int32} {x2 : Int32} {l3 : Option Value} {l4 : Option Value}  : mj_exec X (d + 1) 25 0 [some (.ref 31), some (.int x1), some (.int x2), l3, l4] [] (mw_U s) = (mj_call X d 149 [.int x1, .int (s.1 31 2)] (mw_U s)).bind (mj_bk X (d + 1) 25 8 [some (.ref 31), some (.int x1), some (.int x2), l3, l4] []) := (mj_q_iload_n mw_m25 d25_0 rfl).trans ((mj_q_aload_n mw_m25 d25_1 rfl (by decide)).trans ((mw_q_geti mw_m25 d25_2 mw_p1_18 mw_c_31 mw_f_31_2).trans (mw_q_calln mw_m25 rfl d25_5 mw_p1_30 mw_m149 rfl rfl (Nat.le_of_ble_eq_true rfl) (Nat.le_of_ble_eq_true rfl) rfl rfl)))
theorem b25_8 {X : mj_X} {d : Nat} {s : mw_S} {x1 : Int32} {x2 : Int32} {l3 : Option Value} {l4 : Option Value} {xs0 : Int32}  : mj_exec X d 25 8 [some (.ref 31), some (.int x1), some (.int x2), l3, l4] [.int xs0] (mw_U s) = if xs0 = 0 then mj_exec X d 25 22 [some (.ref 31), some (.int x1), some (.int x2), l3, l4] [] (mw_U s) else mj_exec X d 25 11 [some (.ref 31), some (.int x1), some (.int x2), l3, l4] [] (mw_U s) := mj_q_if_eq mw_m25 d25_8 rfl
theorem b25_11 {X : mj_X} {d : Nat} {s : mw_S} {x1 : Int32} {x2 : Int32} {l3 : Option Value} {l4 : Option Value}  : mj_exec X (d + 1) 25 11 [some (.ref 31), some (.int x1), some (.int x2), l3, l4] [] (mw_U s) = (mj_call X d 149 [.int x2, .int (s.1 31 2)] (mw_U s)).bind (mj_bk X (d + 1) 25 19 [some (.ref 31), some (.int x1), some (.int x2), l3, l4] []) := (mj_q_iload_n mw_m25 d25_11 rfl).trans ((mj_q_aload_n mw_m25 d25_12 rfl (by decide)).trans ((mw_q_geti mw_m25 d25_13 mw_p1_18 mw_c_31 mw_f_31_2).trans (mw_q_calln mw_m25 rfl d25_16 mw_p1_30 mw_m149 rfl rfl (Nat.le_of_ble_eq_true rfl) (Nat.le_of_ble_eq_true rfl) rfl rfl)))
theorem b25_19 {X : mj_X} {d : Nat} {s : mw_S} {x1 : Int32} {x2 : Int32} {l3 : Option Value} {l4 : Option Value} {xs0 : Int32}  : mj_exec X d 25 19 [some (.ref 31), some (.int x1), some (.int x2), l3, l4] [.int xs0] (mw_U s) = if xs0 = 0 then mj_exec X d 25 22 [some (.ref 31), some (.int x1), some (.int x2), l3, l4] [] (mw_U s) else mj_exec X d 25 24 [some (.ref 31), some (.int x1), some (.int x2), l3, l4] [] (mw_U s) := mj_q_if_ne mw_m25 d25_19 rfl
theorem b25_22 {X : mj_X} {d : Nat} {s : mw_S} {x1 : Int32} {x2 : Int32} {l3 : Option Value} {l4 : Option Value}  : mj_exec X d 25 22 [some (.ref 31), some (.int x1), some (.int x2), l3, l4] [] (mw_U s) = some (.inl (some (.int (-1))), mw_U s) := (mj_q_iconst mw_m25 d25_22 mw_k_iconst_m1).trans (mj_q_iret mw_m25 d25_23 rfl)
theorem b25_24 {X : mj_X} {d : Nat} {s : mw_S} {x1 : Int32} {x2 : Int32} {l3 : Option Value} {l4 : Option Value}  : mj_exec X d 25 24 [some (.ref 31), some (.int x1), some (.int x2), l3, l4] [] (mw_U s) = mj_exec X d 25 31 [some (.ref 31), some (.int x1), some (.int x2), some (.int ((nI 1) <<< (x1 &&& 31))), some (.int (nI 0))] [] (mw_U s) := (mj_q_iconst mw_m25 d25_24 mw_k_iconst_1).trans ((mj_q_iload_n mw_m25 d25_25 rfl).trans ((mj_q_ishl mw_m25 d25_26).trans ((mj_q_istore_n mw_m25 d25_27 (Nat.le_of_ble_eq_true rfl) rfl rfl).trans ((mj_q_iconst mw_m25 d25_28 mw_k_iconst_0).trans (mj_q_istore mw_m25 d25_29 (Nat.le_of_ble_eq_true rfl) rfl rfl)))))
theorem b25_31 {X : mj_X} {d : Nat} {s : mw_S} {x1 : Int32} {x2 : Int32} {x3 : Int32} {x4 : Int32}  : mj_exec X d 25 31 [some (.ref 31), some (.int x1), some (.int x2), some (.int x3), some (.int x4)] [] (mw_U s) = if (nI 8) ≤ x4 then mj_exec X d 25 63 [some (.ref 31), some (.int x1), some (.int x2), some (.int x3), some (.int x4)] [] (mw_U s) else mj_exec X d 25 38 [some (.ref 31), some (.int x1), some (.int x2), some (.int x3), some (.int x4)] [] (mw_U s) := (mj_q_iload mw_m25 d25_31 rfl).trans ((mj_q_bipush mw_m25 d25_33 mw_k_bipush_8).trans (mj_q_icmp_ge mw_m25 d25_35 rfl))
theorem b25_38 {X : mj_X} {d : Nat} {s : mw_S} {x1 : Int32} {x2 : Int32} {x3 : Int32} {x4 : Int32}  : mj_exec X (d + 1) 25 38 [some (.ref 31), some (.int x1), some (.int x2), some (.int x3), some (.int x4)] [] (mw_U s) = (mj_call X d 149 [.int x2, .int x3] (mw_U s)).bind (mj_bk X (d + 1) 25 43 [some (.ref 31), some (.int x1), some (.int x2), some (.int x3), some (.int x4)] []) := (mj_q_iload_n mw_m25 d25_38 rfl).trans ((mj_q_iload_n mw_m25 d25_39 rfl).trans (mw_q_calln mw_m25 rfl d25_40 mw_p1_30 mw_m149 rfl rfl (Nat.le_of_ble_eq_true rfl) (Nat.le_of_ble_eq_true rfl) rfl rfl))
theorem b25_43 {X : mj_X} {d : Nat} {s : mw_S} {x1 : Int32} {x2 : Int32} {x3 : Int32} {x4 : Int32} {xs0 : Int32}  : mj_exec X d 25 43 [some (.ref 31), some (.int x1), some (.int x2), some (.int x3), some (.int x4)] [.int xs0] (mw_U s) = if xs0 = 0 then mj_exec X d 25 49 [some (.ref 31), some (.int x1), some (.int x2), some (.int x3), some (.int x4)] [] (mw_U s) else mj_exec X d 25 46 [some (.ref 31), some (.int x1), some (.int x2), some (.int x3), some (.int x4)] [] (mw_U s) := mj_q_if_eq mw_m25 d25_43 rfl
theorem b25_46 {X : mj_X} {d : Nat} {s : mw_S} {x1 : Int32} {x2 : Int32} {x3 : Int32} {x4 : Int32}  : mj_exec X d 25 46 [some (.ref 31), some (.int x1), some (.int x2), some (.int x3), some (.int x4)] [] (mw_U s) = some (.inl (some (.int x4)), mw_U s) := (mj_q_iload mw_m25 d25_46 rfl).trans (mj_q_iret mw_m25 d25_48 rfl)
theorem b25_49 {X : mj_X} {d : Nat} {s : mw_S} {x1 : Int32} {x2 : Int32} {x3 : Int32} {x4 : Int32}  : mj_exec X (d + 1) 25 49 [some (.ref 31), some (.int x1), some (.int x2), some (.int x3), some (.int x4)] [] (mw_U s) = (mj_call X d 26 [.ref 31, .int x3] (mw_U s)).bind (mj_bk X (d + 1) 25 55 [some (.ref 31), some (.int x1), some (.int x2), some (.int x3), some (.int x4)] [.int x3]) := (mj_q_iload_n mw_m25 d25_49 rfl).trans ((mj_q_aload_n mw_m25 d25_50 rfl (by decide)).trans ((mj_q_iload_n mw_m25 d25_51 rfl).trans (mw_q_callv mw_m25 rfl d25_52 mw_p1_58 mw_m26 rfl rfl (Nat.le_of_ble_eq_true rfl) (Nat.le_of_ble_eq_true rfl) rfl (mw_rcv mw_c_31) rfl rfl)))
theorem b25_55 {X : mj_X} {d : Nat} {s : mw_S} {x1 : Int32} {x2 : Int32} {x3 : Int32} {x4 : Int32} {xs0 : Int32} {xs1 : Int32}  : mj_exec X d 25 55 [some (.ref 31), some (.int x1), some (.int x2), some (.int x3), some (.int x4)] [.int xs1, .int xs0] (mw_U s) = mj_exec X d 25 31 [some (.ref 31), some (.int x1), some (.int x2), some (.int (xs0 ||| xs1)), some (.int (x4 + (nI 1)))] [] (mw_U s) := (mj_q_ior mw_m25 d25_55).trans ((mj_q_istore_n mw_m25 d25_56 (Nat.le_of_ble_eq_true rfl) rfl rfl).trans ((mj_q_iinc mw_m25 d25_57 rfl (Nat.le_of_ble_eq_true rfl) rfl mw_k_iconst_1 rfl).trans (mj_q_goto mw_m25 d25_60 rfl)))
theorem b25_63 {X : mj_X} {d : Nat} {s : mw_S} {x1 : Int32} {x2 : Int32} {x3 : Int32} {x4 : Int32}  : mj_exec X d 25 63 [some (.ref 31), some (.int x1), some (.int x2), some (.int x3), some (.int x4)] [] (mw_U s) = some (.inl (some (.int (-1))), mw_U s) := (mj_q_iconst mw_m25 d25_63 mw_k_iconst_m1).trans (mj_q_iret mw_m25 d25_64 rfl)
/-- WivesQuarrels$Circle.oneStepFrom -/
theorem d26_0 : decode prog_3_method_11_code 0 = .ok (.iconst 0, 1) := by decide +kernel
theorem d26_1 : decode prog_3_method_11_code 1 = .ok (.istore_n 2, 1) := by decide +kernel
theorem d26_2 : decode prog_3_method_11_code 2 = .ok (.iconst 0, 1) := by decide +kernel
theorem d26_3 : decode prog_3_method_11_code 3 = .ok (.istore_n 3, 1) := by decide +kernel
theorem d26_4 : decode prog_3_method_11_code 4 = .ok (.iload_n 3, 1) := by decide +kernel
theorem d26_5 : decode prog_3_method_11_code 5 = .ok (.bipush 8, 2) := by decide +kernel
theorem d26_7 : decode prog_3_method_11_code 7 = .ok (.if_icmp .ge 33, 3) := by decide +kernel
theorem d26_10 : decode prog_3_method_11_code 10 = .ok (.iload_n 3, 1) := by decide +kernel
theorem d26_11 : decode prog_3_method_11_code 11 = .ok (.iload_n 1, 1) := by decide +kernel
theorem d26_12 : decode prog_3_method_11_code 12 = .ok (.invokestatic 30, 3) := by decide +kernel
theorem d26_15 : decode prog_3_method_11_code 15 = .ok (.ifCond .eq 19, 3) := by decide +kernel
theorem d26_18 : decode prog_3_method_11_code 18 = .ok (.iload_n 2, 1) := by decide +kernel
theorem d26_19 : decode prog_3_method_11_code 19 = .ok (.aload_n 0, 1) := by decide +kernel
theorem d26_20 : decode prog_3_method_11_code 20 = .ok (.getfield 18, 3) := by decide +kernel
theorem d26_23 : decode prog_3_method_11_code 23 = .ok (.aload_n 0, 1) := by decide +kernel
theorem d26_24 : decode prog_3_method_11_code 24 = .ok (.getfield 9, 3) := by decide +kernel
theorem d26_27 : decode prog_3_method_11_code 27 = .ok (.iload_n 3, 1) := by decide +kernel
theorem d26_28 : decode prog_3_method_11_code 28 = .ok (.iaload, 1) := by decide +kernel
theorem d26_29 : decode prog_3_method_11_code 29 = .ok (.iconst (-1), 1) := by decide +kernel
theorem d26_30 : decode prog_3_method_11_code 30 = .ok (.ixor, 1) := by decide +kernel
theorem d26_31 : decode prog_3_method_11_code 31 = .ok (.iand, 1) := by decide +kernel
theorem d26_32 : decode prog_3_method_11_code 32 = .ok (.ior, 1) := by decide +kernel
theorem d26_33 : decode prog_3_method_11_code 33 = .ok (.istore_n 2, 1) := by decide +kernel
theorem d26_34 : decode prog_3_method_11_code 34 = .ok (.iinc 3 1, 3) := by decide +kernel
theorem d26_37 : decode prog_3_method_11_code 37 = .ok (.goto (-33), 3) := by decide +kernel
theorem d26_40 : decode prog_3_method_11_code 40 = .ok (.iload_n 2, 1) := by decide +kernel
theorem d26_41 : decode prog_3_method_11_code 41 = .ok (.ireturn, 1) := by decide +kernel
theorem b26 {X : mj_X} {d : Nat} {w : mj_W} {x0 : Nat} {x1 : Int32} : mj_call X d 26 [.ref x0, .int x1] w = mj_exec X d 26 0 [some (.ref x0), some (.int x1), none, none] [] w := mw_ent mw_m26 (Nat.le_of_ble_eq_true rfl) rfl
theorem b26_0 {X : mj_X} {d : Nat} {s : mw_S} {x1 : Int32} {l2 : Option Value} {l3 : Option Value}  : mj_exec X d 26 0 [some (.ref 31), some (.int x1), l2, l3] [] (mw_U s) = mj_exec X d 26 4 [some (.ref 31), some (.int x1), some (.int (nI 0)), some (.int (nI 0))] [] (mw_U s) := (mj_q_iconst mw_m26 d26_0 mw_k_iconst_0).trans ((mj_q_istore_n mw_m26 d26_1 (Nat.le_of_ble_eq_true rfl) rfl rfl).trans ((mj_q_iconst mw_m26 d26_2 mw_k_iconst_0).trans (mj_q_istore_n mw_m26 d26_3 (Nat.le_of_ble_eq_true rfl) rfl rfl)))
theorem b26_4 {X : mj_X} {d : Nat} {s : mw_S} {x1 : Int32} {x2 : Int32} {x3 : Int32}  : mj_exec X d 26 4 [some (.ref 31), some (.int x1), some (.int x2), some (.int x3)] [] (mw_U s) = if (nI 8) ≤ x3 then mj_exec X d 26 40 [some (.ref 31), some (.int x1), some (.int x2), some (.int x3)] [] (mw_U s) else mj_exec X d 26 10 [some (.ref 31), some (.int x1), some (.int x2), some (.int x3)] [] (mw_U s) := (mj_q_iload_n mw_m26 d26_4 rfl).trans ((mj_q_bipush mw_m26 d26_5 mw_k_bipush_8).trans (mj_q_icmp_ge mw_m26 d26_7 rfl))
theorem b26_10 {X : mj_X} {d : Nat} {s : mw_S} {x1 : Int32} {x2 : Int32} {x3 : Int32}  : mj_exec X (d + 1) 26 10 [some (.ref 31), some (.int x1), some (.int x2), some (.int x3)] [] (mw_U s) = (mj_call X d 149 [.int x3, .int x1] (mw_U s)).bind (mj_bk X (d + 1) 26 15 [some (.ref 31), some (.int x1), some (.int x2), some (.int x3)] []) := (mj_q_iload_n mw_m26 d26_10 rfl).trans ((mj_q_iload_n mw_m26 d26_11 rfl).trans (mw_q_calln mw_m26 rfl d26_12 mw_p1_30 mw_m149 rfl rfl (Nat.le_of_ble_eq_true rfl) (Nat.le_of_ble_eq_true rfl) rfl rfl))
theorem b26_15 {X : mj_X} {d : Nat} {s : mw_S} {x1 : Int32} {x2 : Int32} {x3 : Int32} {xs0 : Int32}  : mj_exec X d 26 15 [some (.ref 31), some (.int x1), some (.int x2), some (.int x3)] [.int xs0] (mw_U s) = if xs0 = 0 then mj_exec X d 26 34 [some (.ref 31), some (.int x1), some (.int x2), some (.int x3)] [] (mw_U s) else mj_exec X d 26 18 [some (.ref 31), some (.int x1), some (.int x2), some (.int x3)] [] (mw_U s) := mj_q_if_eq mw_m26 d26_15 rfl
theorem b26_18 {X : mj_X} {d : Nat} {s : mw_S} {x1 : Int32} {x2 : Int32} {x3 : Int32}  : mj_exec X d 26 18 [some (.ref 31), some (.int x1), some (.int x2), some (.int x3)] [] (mw_U s) = if mw_in 8 x3 = true then mj_exec X d 26 34 [some (.ref 31), some (.int x1), some (.int (x2 ||| ((s.1 31 2) &&& ((s.1 32 (x3).toNatClampNeg) ^^^ (-1))))), some (.int x3)] [] (mw_U s) else none := (mj_q_iload_n mw_m26 d26_18 rfl).trans ((mj_q_aload_n mw_m26 d26_19 rfl (by decide)).trans ((mw_q_geti mw_m26 d26_20 mw_p1_18 mw_c_31 mw_f_31_2).trans ((mj_q_aload_n mw_m26 d26_23 rfl (by decide)).trans ((mw_q_getr mw_m26 d26_24 mw_p1_9 mw_c_31 mw_f_31_0).trans ((mj_q_iload_n mw_m26 d26_27 rfl).trans ((mw_h_iald mw_m26 d26_28 mw_r_32).trans (mw_g ((mj_q_iconst mw_m26 d26_29 mw_k_iconst_m1).trans ((mj_q_ixor mw_m26 d26_30).trans ((mj_q_iand mw_m26 d26_31).trans ((mj_q_ior mw_m26 d26_32).trans (mj_q_istore_n mw_m26 d26_33 (Nat.le_of_ble_eq_true rfl) rfl rfl))))))))))))
theorem b26_34 {X : mj_X} {d : Nat} {s : mw_S} {x1 : Int32} {x2 : Int32} {x3 : Int32}  : mj_exec X d 26 34 [some (.ref 31), some (.int x1), some (.int x2), some (.int x3)] [] (mw_U s) = mj_exec X d 26 4 [some (.ref 31), some (.int x1), some (.int x2), some (.int (x3 + (nI 1)))] [] (mw_U s) := (mj_q_iinc mw_m26 d26_34 rfl (Nat.le_of_ble_eq_true rfl) rfl mw_k_iconst_1 rfl).trans (mj_q_goto mw_m26 d26_37 rfl)
theorem b26_40 {X : mj_X} {d : Nat} {s : mw_S} {x1 : Int32} {x2 : Int32} {x3 : Int32}  : mj_exec X d 26 40 [some (.ref 31), some (.int x1), some (.int x2), some (.int x3)] [] (mw_U s) = some (.inl (some (.int x2)), mw_U s) := (mj_q_iload_n mw_m26 d26_40 rfl).trans (mj_q_iret mw_m26 d26_41 rfl)
/-- WivesQuarrels$Circle.friendsOf -/
theorem d27_0 : decode prog_3_method_12_code 0 = .ok (.iload_n 1, 1) := by decide +kernel
theorem d27_1 : decode prog_3_method_12_code 1 = .ok (.aload_n 0, 1) := by decide +kernel
theorem d27_2 : decode prog_3_method_12_code 2 = .ok (.getfield 18, 3) := by decide +kernel
theorem d27_5 : decode prog_3_method_12_code 5 = .ok (.invokestatic 30, 3) := by decide +kernel
theorem d27_8 : decode prog_3_method_12_code 8 = .ok (.ifCond .ne 5, 3) := by decide +kernel
theorem d27_11 : decode prog_3_method_12_code 11 = .ok (.iconst 0, 1) := by decide +kernel
theorem d27_12 : decode prog_3_method_12_code 12 = .ok (.ireturn, 1) := by decide +kernel
theorem d27_13 : decode prog_3_method_12_code 13 = .ok (.aload_n 0, 1) := by decide +kernel
theorem d27_14 : decode prog_3_method_12_code 14 = .ok (.getfield 9, 3) := by decide +kernel
theorem d27_17 : decode prog_3_method_12_code 17 = .ok (.iload_n 1, 1) := by decide +kernel
theorem d27_18 : decode prog_3_method_12_code 18 = .ok (.iaload, 1) := by decide +kernel
theorem d27_19 : decode prog_3_method_12_code 19 = .ok (.istore_n 2, 1) := by decide +kernel
theorem d27_20 : decode prog_3_method_12_code 20 = .ok (.aload_n 0, 1) := by decide +kernel
theorem d27_21 : decode prog_3_method_12_code 21 = .ok (.iload_n 2, 1) := by decide +kernel
theorem d27_22 : decode prog_3_method_12_code 22 = .ok (.invokevirtual 34, 3) := by decide +kernel
theorem d27_25 : decode prog_3_method_12_code 25 = .ok (.aload_n 0, 1) := by decide +kernel
theorem d27_26 : decode prog_3_method_12_code 26 = .ok (.getfield 18, 3) := by decide +kernel
theorem d27_29 : decode prog_3_method_12_code 29 = .ok (.iand, 1) := by decide +kernel
theorem d27_30 : decode prog_3_method_12_code 30 = .ok (.iload_n 2, 1) := by decide +kernel
theorem d27_31 : decode prog_3_method_12_code 31 = .ok (.iconst (-1), 1) := by decide +kernel
theorem d27_32 : decode prog_3_method_12_code 32 = .ok (.ixor, 1) := by decide +kernel
theorem d27_33 : decode prog_3_method_12_code 33 = .ok (.iand, 1) := by decide +kernel
theorem d27_34 : decode prog_3_method_12_code 34 = .ok (.iconst 1, 1) := by decide +kernel
theorem d27_35 : decode prog_3_method_12_code 35 = .ok (.iload_n 1, 1) := by decide +kernel
theorem d27_36 : decode prog_3_method_12_code 36 = .ok (.ishl, 1) := by decide +kernel
theorem d27_37 : decode prog_3_method_12_code 37 = .ok (.iconst (-1), 1) := by decide +kernel
theorem d27_38 : decode prog_3_method_12_code 38 = .ok (.ixor, 1) := by decide +kernel
theorem d27_39 : decode prog_3_method_12_code 39 = .ok (.iand, 1) := by decide +kernel
theorem d27_40 : decode prog_3_method_12_code 40 = .ok (.ireturn, 1) := by decide +kernel
theorem b27 {X : mj_X} {d : Nat} {w : mj_W} {x0 : Nat} {x1 : Int32} : mj_call X d 27 [.ref x0, .int x1] w = mj_exec X d 27 0 [some (.ref x0), some (.int x1), none] [] w := mw_ent mw_m27 (Nat.le_of_ble_eq_true rfl) rfl
theorem b27_0 {X : mj_X} {d : Nat} {s : mw_S} {x1 : Int32} {l2 : Option Value}  : mj_exec X (d + 1) 27 0 [some (.ref 31), some (.int x1), l2] [] (mw_U s) = (mj_call X d 149 [.int x1, .int (s.1 31 2)] (mw_U s)).bind (mj_bk X (d + 1) 27 8 [some (.ref 31), some (.int x1), l2] []) := (mj_q_iload_n mw_m27 d27_0 rfl).trans ((mj_q_aload_n mw_m27 d27_1 rfl (by decide)).trans ((mw_q_geti mw_m27 d27_2 mw_p1_18 mw_c_31 mw_f_31_2).trans (mw_q_calln mw_m27 rfl d27_5 mw_p1_30 mw_m149 rfl rfl (Nat.le_of_ble_eq_true rfl) (Nat.le_of_ble_eq_true rfl) rfl rfl)))
theorem b27_8 {X : mj_X} {d : Nat} {s : mw_S} {x1 : Int32} {l2 : Option Value} {xs0 : Int32}  : mj_exec X d 27 8 [some (.ref 31), some (.int x1), l2] [.int xs0] (mw_U s) = if xs0 = 0 then mj_exec X d 27 11 [some (.ref 31), some (.int x1), l2] [] (mw_U s) else mj_exec X d 27 13 [some (.ref 31), some (.int x1), l2] [] (mw_U s) := mj_q_if_ne mw_m27 d27_8 rfl
theorem b27_11 {X : mj_X} {d : Nat} {s : mw_S} {x1 : Int32} {l2 : Option Value}  : mj_exec X d 27 11 [some (.ref 31), some (.int x1), l2] [] (mw_U s) = some (.inl (some (.int (nI 0))), mw_U s) := (mj_q_iconst mw_m27 d27_11 mw_k_iconst_0).trans (mj_q_iret mw_m27 d27_12 rfl)
theorem b27_13 {X : mj_X} {d : Nat} {s : mw_S} {x1 : Int32} {l2 : Option Value}  : mj_exec X (d + 1) 27 13 [some (.ref 31), some (.int x1), l2] [] (mw_U s) = if mw_in 8 x1 = true then (mj_call X d 17 [.ref 31, .int (s.1 32 (x1).toNatClampNeg)] (mw_U s)).bind (mj_bk X (d + 1) 27 25 [some (.ref 31), some (.int x1), some (.int (s.1 32 (x1).toNatClampNeg))] []) else none := (mj_q_aload_n mw_m27 d27_13 rfl (by decide)).trans ((mw_q_getr mw_m27 d27_14 mw_p1_9 mw_c_31 mw_f_31_0).trans ((mj_q_iload_n mw_m27 d27_17 rfl).trans ((mw_h_iald mw_m27 d27_18 mw_r_32).trans (mw_g ((mj_q_istore_n mw_m27 d27_19 (Nat.le_of_ble_eq_true rfl) rfl rfl).trans ((mj_q_aload_n mw_m27 d27_20 rfl (by decide)).trans ((mj_q_iload_n mw_m27 d27_21 rfl).trans (mw_q_callv mw_m27 rfl d27_22 mw_p1_34 mw_m17 rfl rfl (Nat.le_of_ble_eq_true rfl) (Nat.le_of_ble_eq_true rfl) rfl (mw_rcv mw_c_31) rfl rfl))))))))
theorem b27_25 {X : mj_X} {d : Nat} {s : mw_S} {x1 : Int32} {x2 : Int32} {xs0 : Int32}  : mj_exec X d 27 25 [some (.ref 31), some (.int x1), some (.int x2)] [.int xs0] (mw_U s) = some (.inl (some (.int (((xs0 &&& (s.1 31 2)) &&& (x2 ^^^ (-1))) &&& (((nI 1) <<< (x1 &&& 31)) ^^^ (-1))))), mw_U s) := (mj_q_aload_n mw_m27 d27_25 rfl (by decide)).trans ((mw_q_geti mw_m27 d27_26 mw_p1_18 mw_c_31 mw_f_31_2).trans ((mj_q_iand mw_m27 d27_29).trans ((mj_q_iload_n mw_m27 d27_30 rfl).trans ((mj_q_iconst mw_m27 d27_31 mw_k_iconst_m1).trans ((mj_q_ixor mw_m27 d27_32).trans ((mj_q_iand mw_m27 d27_33).trans ((mj_q_iconst mw_m27 d27_34 mw_k_iconst_1).trans ((mj_q_iload_n mw_m27 d27_35 rfl).trans ((mj_q_ishl mw_m27 d27_36).trans ((mj_q_iconst mw_m27 d27_37 mw_k_iconst_m1).trans ((mj_q_ixor mw_m27 d27_38).trans ((mj_q_iand mw_m27 d27_39).trans (mj_q_iret mw_m27 d27_40 rfl)))))))))))))
/-- WivesQuarrels$Fate.run -/
theorem d29_0 : decode prog_4_method_3_code 0 = .ok (.aload_n 0, 1) := by decide +kernel
theorem d29_1 : decode prog_4_method_3_code 1 = .ok (.iload_n 3, 1) := by decide +kernel
theorem d29_2 : decode prog_4_method_3_code 2 = .ok (.putfield 7, 3) := by decide +kernel
theorem d29_5 : decode prog_4_method_3_code 5 = .ok (.iconst 0, 1) := by decide +kernel
theorem d29_6 : decode prog_4_method_3_code 6 = .ok (.istore 5, 2) := by decide +kernel
theorem d29_8 : decode prog_4_method_3_code 8 = .ok (.iload 5, 2) := by decide +kernel
theorem d29_10 : decode prog_4_method_3_code 10 = .ok (.iload 4, 2) := by decide +kernel
theorem d29_12 : decode prog_4_method_3_code 12 = .ok (.if_icmp .ge 37, 3) := by decide +kernel
theorem d29_15 : decode prog_4_method_3_code 15 = .ok (.aload_n 0, 1) := by decide +kernel
theorem d29_16 : decode prog_4_method_3_code 16 = .ok (.bipush 8, 2) := by decide +kernel
theorem d29_18 : decode prog_4_method_3_code 18 = .ok (.invokevirtual 14, 3) := by decide +kernel
theorem d29_21 : decode prog_4_method_3_code 21 = .ok (.istore 6, 2) := by decide +kernel
theorem d29_23 : decode prog_4_method_3_code 23 = .ok (.aload_n 1, 1) := by decide +kernel
theorem d29_24 : decode prog_4_method_3_code 24 = .ok (.invokevirtual 18, 3) := by decide +kernel
theorem d29_27 : decode prog_4_method_3_code 27 = .ok (.ifCond .le 10, 3) := by decide +kernel
theorem d29_30 : decode prog_4_method_3_code 30 = .ok (.aload_n 0, 1) := by decide +kernel
theorem d29_31 : decode prog_4_method_3_code 31 = .ok (.aload_n 1, 1) := by decide +kernel
theorem d29_32 : decode prog_4_method_3_code 32 = .ok (.iload 6, 2) := by decide +kernel
theorem d29_34 : decode prog_4_method_3_code 34 = .ok (.invokevirtual 24, 3) := by decide +kernel
theorem d29_37 : decode prog_4_method_3_code 37 = .ok (.aload_n 2, 1) := by decide +kernel
theorem d29_38 : decode prog_4_method_3_code 38 = .ok (.aload_n 1, 1) := by decide +kernel
theorem d29_39 : decode prog_4_method_3_code 39 = .ok (.iconst 1, 1) := by decide +kernel
theorem d29_40 : decode prog_4_method_3_code 40 = .ok (.invokevirtual 28, 3) := by decide +kernel
theorem d29_43 : decode prog_4_method_3_code 43 = .ok (.iinc 5 1, 3) := by decide +kernel
theorem d29_46 : decode prog_4_method_3_code 46 = .ok (.goto (-38), 3) := by decide +kernel
theorem d29_49 : decode prog_4_method_3_code 49 = .ok (.return_, 1) := by decide +kernel
theorem b29 {X : mj_X} {d : Nat} {w : mj_W} {x0 : Nat} {x1 : Nat} {x2 : Nat} {x3 : Int32} {x4 : Int32} : mj_call X d 29 [.ref x0, .ref x1, .ref x2, .int x3, .int x4] w = mj_exec X d 29 0 [some (.ref x0), some (.ref x1), some (.ref x2), some (.int x3), some (.int x4), none, none] [] w := mw_ent mw_m29 (Nat.le_of_ble_eq_true rfl) rfl
theorem b29_0 {X : mj_X} {d : Nat} {s : mw_S} {k1 : Nat} {k2 : Nat} {x3 : Int32} {x4 : Int32} {l5 : Option Value} {l6 : Option Value} (h1 : mw_cl k1 = some 3) (h2 : mw_cl k2 = some 6) : mj_exec X d 29 0 [some (.ref 39), some (.ref k1), some (.ref k2), some (.int x3), some (.int x4), l5, l6] [] (mw_U s) = mj_exec X d 29 8 [some (.ref 39), some (.ref k1), some (.ref k2), some (.int x3), some (.int x4), some (.int (nI 0)), l6] [] (mw_U (mw_p s 39 0 x3)) := (mj_q_aload_n mw_m29 d29_0 rfl (by decide)).trans ((mj_q_iload_n mw_m29 d29_1 rfl).trans ((mw_q_puti mw_m29 d29_2 mw_p2_7 mw_c_39 mw_f_39_0 (by decide) rfl (.inl rfl)).trans ((mj_q_iconst mw_m29 d29_5 mw_k_iconst_0).trans (mj_q_istore mw_m29 d29_6 (Nat.le_of_ble_eq_true rfl) rfl rfl))))
theorem b29_8 {X : mj_X} {d : Nat} {s : mw_S} {k1 : Nat} {k2 : Nat} {x3 : Int32} {x4 : Int32} {x5 : Int32} {l6 : Option Value} (h1 : mw_cl k1 = some 3) (h2 : mw_cl k2 = some 6) : mj_exec X d 29 8 [some (.ref 39), some (.ref k1), some (.ref k2), some (.int x3), some (.int x4), some (.int x5), l6] [] (mw_U s) = if x4 ≤ x5 then mj_exec X d 29 49 [some (.ref 39), some (.ref k1), some (.ref k2), some (.int x3), some (.int x4), some (.int x5), l6] [] (mw_U s) else mj_exec X d 29 15 [some (.ref 39), some (.ref k1), some (.ref k2), some (.int x3), some (.int x4), some (.int x5), l6] [] (mw_U s) := (mj_q_iload mw_m29 d29_8 rfl).trans ((mj_q_iload mw_m29 d29_10 rfl).trans (mj_q_icmp_ge mw_m29 d29_12 rfl))
theorem b29_15 {X : mj_X} {d : Nat} {s : mw_S} {k1 : Nat} {k2 : Nat} {x3 : Int32} {x4 : Int32} {x5 : Int32} {l6 : Option Value} (h1 : mw_cl k1 = some 3) (h2 : mw_cl k2 = some 6) : mj_exec X (d + 1) 29 15 [some (.ref 39), some (.ref k1), some (.ref k2), some (.int x3), some (.int x4), some (.int x5), l6] [] (mw_U s) = (mj_call X d 30 [.ref 39, .int (nI 8)] (mw_U s)).bind (mj_bk X (d + 1) 29 21 [some (.ref 39), some (.ref k1), some (.ref k2), some (.int x3), some (.int x4), some (.int x5), l6] []) := (mj_q_aload_n mw_m29 d29_15 rfl (by decide)).trans ((mj_q_bipush mw_m29 d29_16 mw_k_bipush_8).trans (mw_q_callv mw_m29 rfl d29_18 mw_p2_14 mw_m30 rfl rfl (Nat.le_of_ble_eq_true rfl) (Nat.le_of_ble_eq_true rfl) rfl (mw_rcv mw_c_39) rfl rfl))
theorem b29_21 {X : mj_X} {d : Nat} {s : mw_S} {k1 : Nat} {k2 : Nat} {x3 : Int32} {x4 : Int32} {x5 : Int32} {l6 : Option Value} {xs0 : Int32} (h1 : mw_cl k1 = some 3) (h2 : mw_cl k2 = some 6) : mj_exec X (d + 1) 29 21 [some (.ref 39), some (.ref k1), some (.ref k2), some (.int x3), some (.int x4), some (.int x5), l6] [.int xs0] (mw_U s) = (mj_call X d 61 [.ref k1] (mw_U s)).bind (mj_bk X (d + 1) 29 27 [some (.ref 39), some (.ref k1), some (.ref k2), some (.int x3), some (.int x4), some (.int x5), some (.int xs0)] []) := (mj_q_istore mw_m29 d29_21 (Nat.le_of_ble_eq_true rfl) rfl rfl).trans ((mj_q_aload_n mw_m29 d29_23 rfl (mw_neo h1)).trans (mw_q_callv mw_m29 rfl d29_24 mw_p2_18 mw_m61 rfl rfl (Nat.le_of_ble_eq_true rfl) (Nat.le_of_ble_eq_true rfl) rfl (mw_rcv h1) rfl rfl))
theorem b29_27 {X : mj_X} {d : Nat} {s : mw_S} {k1 : Nat} {k2 : Nat} {x3 : Int32} {x4 : Int32} {x5 : Int32} {x6 : Int32} {xs0 : Int32} (h1 : mw_cl k1 = some 3) (h2 : mw_cl k2 = some 6) : mj_exec X d 29 27 [some (.ref 39), some (.ref k1), some (.ref k2), some (.int x3), some (.int x4), some (.int x5), some (.int x6)] [.int xs0] (mw_U s) = if xs0 ≤ 0 then mj_exec X d 29 37 [some (.ref 39), some (.ref k1), some (.ref k2), some (.int x3), some (.int x4), some (.int x5), some (.int x6)] [] (mw_U s) else mj_exec X d 29 30 [some (.ref 39), some (.ref k1), some (.ref k2), some (.int x3), some (.int x4), some (.int x5), some (.int x6)] [] (mw_U s) := mj_q_if_le mw_m29 d29_27 rfl
theorem b29_30 {X : mj_X} {d : Nat} {s : mw_S} {k1 : Nat} {k2 : Nat} {x3 : Int32} {x4 : Int32} {x5 : Int32} {x6 : Int32} (h1 : mw_cl k1 = some 3) (h2 : mw_cl k2 = some 6) : mj_exec X (d + 1) 29 30 [some (.ref 39), some (.ref k1), some (.ref k2), some (.int x3), some (.int x4), some (.int x5), some (.int x6)] [] (mw_U s) = (mj_call X d 31 [.ref 39, .ref k1, .int x6] (mw_U s)).bind (mj_bk X (d + 1) 29 37 [some (.ref 39), some (.ref k1), some (.ref k2), some (.int x3), some (.int x4), some (.int x5), some (.int x6)] []) := (mj_q_aload_n mw_m29 d29_30 rfl (by decide)).trans ((mj_q_aload_n mw_m29 d29_31 rfl (mw_neo h1)).trans ((mj_q_iload mw_m29 d29_32 rfl).trans (mw_q_callv mw_m29 rfl d29_34 mw_p2_24 mw_m31 rfl rfl (Nat.le_of_ble_eq_true rfl) (Nat.le_of_ble_eq_true rfl) rfl (mw_rcv mw_c_39) rfl rfl)))
theorem b29_37 {X : mj_X} {d : Nat} {s : mw_S} {k1 : Nat} {k2 : Nat} {x3 : Int32} {x4 : Int32} {x5 : Int32} {x6 : Int32} (h1 : mw_cl k1 = some 3) (h2 : mw_cl k2 = some 6) : mj_exec X (d + 1) 29 37 [some (.ref 39), some (.ref k1), some (.ref k2), some (.int x3), some (.int x4), some (.int x5), some (.int x6)] [] (mw_U s) = (mj_call X d 112 [.ref k2, .ref k1, .int (nI 1)] (mw_U s)).bind (mj_bk X (d + 1) 29 43 [some (.ref 39), some (.ref k1), some (.ref k2), some (.int x3), some (.int x4), some (.int x5), some (.int x6)] []) := (mj_q_aload_n mw_m29 d29_37 rfl (mw_neo h2)).trans ((mj_q_aload_n mw_m29 d29_38 rfl (mw_neo h1)).trans ((mj_q_iconst mw_m29 d29_39 mw_k_iconst_1).trans (mw_q_callv mw_m29 rfl d29_40 mw_p2_28 mw_m112 rfl rfl (Nat.le_of_ble_eq_true rfl) (Nat.le_of_ble_eq_true rfl) rfl (mw_rcv h2) rfl rfl)))
theorem b29_43 {X : mj_X} {d : Nat} {s : mw_S} {k1 : Nat} {k2 : Nat} {x3 : Int32} {x4 : Int32} {x5 : Int32} {x6 : Int32} (h1 : mw_cl k1 = some 3) (h2 : mw_cl k2 = some 6) : mj_exec X d 29 43 [some (.ref 39), some (.ref k1), some (.ref k2), some (.int x3), some (.int x4), some (.int x5), some (.int x6)] [] (mw_U s) = mj_exec X d 29 8 [some (.ref 39), some (.ref k1), some (.ref k2), some (.int x3), some (.int x4), some (.int (x5 + (nI 1))), some (.int x6)] [] (mw_U s) := (mj_q_iinc mw_m29 d29_43 rfl (Nat.le_of_ble_eq_true rfl) rfl mw_k_iconst_1 rfl).trans (mj_q_goto mw_m29 d29_46 rfl)
theorem b29_49 {X : mj_X} {d : Nat} {s : mw_S} {k1 : Nat} {k2 : Nat} {x3 : Int32} {x4 : Int32} {x5 : Int32} {l6 : Option Value} (h1 : mw_cl k1 = some 3) (h2 : mw_cl k2 = some 6) : mj_exec X d 29 49 [some (.ref 39), some (.ref k1), some (.ref k2), some (.int x3), some (.int x4), some (.int x5), l6] [] (mw_U s) = some (.inl none, mw_U s) := mj_q_vret mw_m29 d29_49 rfl
/-- WivesQuarrels$Fate.draw -/
theorem d30_0 : decode prog_4_method_2_code 0 = .ok (.aload_n 0, 1) := by decide +kernel
theorem d30_1 : decode prog_4_method_2_code 1 = .ok (.aload_n 0, 1) := by decide +kernel
theorem d30_2 : decode prog_4_method_2_code 2 = .ok (.getfield 7, 3) := by decide +kernel
theorem d30_5 : decode prog_4_method_2_code 5 = .ok (.ldc 13, 2) := by decide +kernel
theorem d30_7 : decode prog_4_method_2_code 7 = .ok (.imul, 1) := by decide +kernel
theorem d30_8 : decode prog_4_method_2_code 8 = .ok (.sipush 12345, 3) := by decide +kernel
theorem d30_11 : decode prog_4_method_2_code 11 = .ok (.iadd, 1) := by decide +kernel
theorem d30_12 : decode prog_4_method_2_code 12 = .ok (.putfield 7, 3) := by decide +kernel
theorem d30_15 : decode prog_4_method_2_code 15 = .ok (.iload_n 1, 1) := by decide +kernel
theorem d30_16 : decode prog_4_method_2_code 16 = .ok (.ifCond .gt 7, 3) := by decide +kernel
theorem d30_19 : decode prog_4_method_2_code 19 = .ok (.iconst 0, 1) := by decide +kernel
theorem d30_20 : decode prog_4_method_2_code 20 = .ok (.goto 16, 3) := by decide +kernel
theorem d30_23 : decode prog_4_method_2_code 23 = .ok (.aload_n 0, 1) := by decide +kernel
theorem d30_24 : decode prog_4_method_2_code 24 = .ok (.getfield 7, 3) := by decide +kernel
theorem d30_27 : decode prog_4_method_2_code 27 = .ok (.bipush 16, 2) := by decide +kernel
theorem d30_29 : decode prog_4_method_2_code 29 = .ok (.iushr, 1) := by decide +kernel
theorem d30_30 : decode prog_4_method_2_code 30 = .ok (.sipush 32767, 3) := by decide +kernel
theorem d30_33 : decode prog_4_method_2_code 33 = .ok (.iand, 1) := by decide +kernel
theorem d30_34 : decode prog_4_method_2_code 34 = .ok (.iload_n 1, 1) := by decide +kernel
theorem d30_35 : decode prog_4_method_2_code 35 = .ok (.irem, 1) := by decide +kernel
theorem d30_36 : decode prog_4_method_2_code 36 = .ok (.ireturn, 1) := by decide +kernel
theorem b30 {X : mj_X} {d : Nat} {w : mj_W} {x0 : Nat} {x1 : Int32} : mj_call X d 30 [.ref x0, .int x1] w = mj_exec X d 30 0 [some (.ref x0), some (.int x1)] [] w := mw_ent mw_m30 (Nat.le_of_ble_eq_true rfl) rfl
theorem b30_0 {X : mj_X} {d : Nat} {s : mw_S} {x1 : Int32}  : mj_exec X d 30 0 [some (.ref 39), some (.int x1)] [] (mw_U s) = if 0 < x1 then mj_exec X d 30 23 [some (.ref 39), some (.int x1)] [] (mw_U (mw_p s 39 0 (((s.1 39 0) * (nI 1103515245)) + (nI 12345)))) else mj_exec X d 30 19 [some (.ref 39), some (.int x1)] [] (mw_U (mw_p s 39 0 (((s.1 39 0) * (nI 1103515245)) + (nI 12345)))) := (mj_q_aload_n mw_m30 d30_0 rfl (by decide)).trans ((mj_q_aload_n mw_m30 d30_1 rfl (by decide)).trans ((mw_q_geti mw_m30 d30_2 mw_p2_7 mw_c_39 mw_f_39_0).trans ((mj_q_ldci mw_m30 d30_5 mw_p2_13).trans ((mj_q_imul mw_m30 d30_7).trans ((mj_q_sipush mw_m30 d30_8 mw_k_sipush_12345).trans ((mj_q_iadd mw_m30 d30_11).trans ((mw_q_puti mw_m30 d30_12 mw_p2_7 mw_c_39 mw_f_39_0 (by decide) rfl (.inl rfl)).trans ((mj_q_iload_n mw_m30 d30_15 rfl).trans (mj_q_if_gt mw_m30 d30_16 rfl)))))))))
theorem b30_19 {X : mj_X} {d : Nat} {s : mw_S} {x1 : Int32}  : mj_exec X d 30 19 [some (.ref 39), some (.int x1)] [] (mw_U s) = mj_exec X d 30 36 [some (.ref 39), some (.int x1)] [.int (nI 0)] (mw_U s) := (mj_q_iconst mw_m30 d30_19 mw_k_iconst_0).trans (mj_q_goto mw_m30 d30_20 rfl)
theorem b30_23 {X : mj_X} {d : Nat} {s : mw_S} {x1 : Int32}  : mj_exec X d 30 23 [some (.ref 39), some (.int x1)] [] (mw_U s) = if mw_nz x1 = true then mj_exec X d 30 36 [some (.ref 39), some (.int x1)] [.int (((((s.1 39 0)).toUInt32 >>> (((nI 16)).toUInt32 &&& Int32.toUInt32 31)).toInt32 &&& (nI 32767)) - ((((s.1 39 0)).toUInt32 >>> (((nI 16)).toUInt32 &&& Int32.toUInt32 31)).toInt32 &&& (nI 32767)) / x1 * x1)] (mw_U s) else none := (mj_q_aload_n mw_m30 d30_23 rfl (by decide)).trans ((mw_q_geti mw_m30 d30_24 mw_p2_7 mw_c_39 mw_f_39_0).trans ((mj_q_bipush mw_m30 d30_27 mw_k_bipush_16).trans ((mj_q_iushr mw_m30 d30_29).trans ((mj_q_sipush mw_m30 d30_30 mw_k_sipush_32767).trans ((mj_q_iand mw_m30 d30_33).trans ((mj_q_iload_n mw_m30 d30_34 rfl).trans ((mw_h_irem mw_m30 d30_35).trans (mw_g (rfl)))))))))
theorem b30_36 {X : mj_X} {d : Nat} {s : mw_S} {x1 : Int32} {xs0 : Int32}  : mj_exec X d 30 36 [some (.ref 39), some (.int x1)] [.int xs0] (mw_U s) = some (.inl (some (.int xs0)), mw_U s) := mj_q_iret mw_m30 d30_36 rfl
/-- WivesQuarrels$Fate.strike -/
theorem d31_0 : decode prog_4_method_4_code 0 = .ok (.iload_n 2, 1) := by decide +kernel
theorem d31_1 : decode prog_4_method_4_code 1 = .ok (.ifCond .ne 28, 3) := by decide +kernel
theorem d31_4 : decode prog_4_method_4_code 4 = .ok (.aload_n 0, 1) := by decide +kernel
theorem d31_5 : decode prog_4_method_4_code 5 = .ok (.aload_n 1, 1) := by decide +kernel
theorem d31_6 : decode prog_4_method_4_code 6 = .ok (.invokevirtual 18, 3) := by decide +kernel
theorem d31_9 : decode prog_4_method_4_code 9 = .ok (.invokevirtual 14, 3) := by decide +kernel
theorem d31_12 : decode prog_4_method_4_code 12 = .ok (.istore_n 3, 1) := by decide +kernel
theorem d31_13 : decode prog_4_method_4_code 13 = .ok (.aload_n 1, 1) := by decide +kernel
theorem d31_14 : decode prog_4_method_4_code 14 = .ok (.iload_n 3, 1) := by decide +kernel
theorem d31_15 : decode prog_4_method_4_code 15 = .ok (.invokevirtual 33, 3) := by decide +kernel
theorem d31_18 : decode prog_4_method_4_code 18 = .ok (.ifCond .eq 8, 3) := by decide +kernel
theorem d31_21 : decode prog_4_method_4_code 21 = .ok (.aload_n 1, 1) := by decide +kernel
theorem d31_22 : decode prog_4_method_4_code 22 = .ok (.iload_n 3, 1) := by decide +kernel
theorem d31_23 : decode prog_4_method_4_code 23 = .ok (.invokevirtual 37, 3) := by decide +kernel
theorem d31_26 : decode prog_4_method_4_code 26 = .ok (.goto 57, 3) := by decide +kernel
theorem d31_29 : decode prog_4_method_4_code 29 = .ok (.iload_n 2, 1) := by decide +kernel
theorem d31_30 : decode prog_4_method_4_code 30 = .ok (.iconst 1, 1) := by decide +kernel
theorem d31_31 : decode prog_4_method_4_code 31 = .ok (.if_icmp .ne 11, 3) := by decide +kernel
theorem d31_34 : decode prog_4_method_4_code 34 = .ok (.aload_n 0, 1) := by decide +kernel
theorem d31_35 : decode prog_4_method_4_code 35 = .ok (.aload_n 1, 1) := by decide +kernel
theorem d31_36 : decode prog_4_method_4_code 36 = .ok (.invokevirtual 41, 3) := by decide +kernel
theorem d31_39 : decode prog_4_method_4_code 39 = .ok (.goto 44, 3) := by decide +kernel
theorem d31_42 : decode prog_4_method_4_code 42 = .ok (.iload_n 2, 1) := by decide +kernel
theorem d31_43 : decode prog_4_method_4_code 43 = .ok (.iconst 2, 1) := by decide +kernel
theorem d31_44 : decode prog_4_method_4_code 44 = .ok (.if_icmp .ne 39, 3) := by decide +kernel
theorem d31_47 : decode prog_4_method_4_code 47 = .ok (.aload_n 0, 1) := by decide +kernel
theorem d31_48 : decode prog_4_method_4_code 48 = .ok (.aload_n 1, 1) := by decide +kernel
theorem d31_49 : decode prog_4_method_4_code 49 = .ok (.invokevirtual 18, 3) := by decide +kernel
theorem d31_52 : decode prog_4_method_4_code 52 = .ok (.invokevirtual 14, 3) := by decide +kernel
theorem d31_55 : decode prog_4_method_4_code 55 = .ok (.istore_n 3, 1) := by decide +kernel
theorem d31_56 : decode prog_4_method_4_code 56 = .ok (.aload_n 0, 1) := by decide +kernel
theorem d31_57 : decode prog_4_method_4_code 57 = .ok (.aload_n 1, 1) := by decide +kernel
theorem d31_58 : decode prog_4_method_4_code 58 = .ok (.invokevirtual 18, 3) := by decide +kernel
theorem d31_61 : decode prog_4_method_4_code 61 = .ok (.invokevirtual 14, 3) := by decide +kernel
theorem d31_64 : decode prog_4_method_4_code 64 = .ok (.istore 4, 2) := by decide +kernel
theorem d31_66 : decode prog_4_method_4_code 66 = .ok (.aload_n 1, 1) := by decide +kernel
theorem d31_67 : decode prog_4_method_4_code 67 = .ok (.iload_n 3, 1) := by decide +kernel
theorem d31_68 : decode prog_4_method_4_code 68 = .ok (.iload 4, 2) := by decide +kernel
theorem d31_70 : decode prog_4_method_4_code 70 = .ok (.invokevirtual 45, 3) := by decide +kernel
theorem d31_73 : decode prog_4_method_4_code 73 = .ok (.ifCond .eq 10, 3) := by decide +kernel
theorem d31_76 : decode prog_4_method_4_code 76 = .ok (.aload_n 1, 1) := by decide +kernel
theorem d31_77 : decode prog_4_method_4_code 77 = .ok (.iload_n 3, 1) := by decide +kernel
theorem d31_78 : decode prog_4_method_4_code 78 = .ok (.iload 4, 2) := by decide +kernel
theorem d31_80 : decode prog_4_method_4_code 80 = .ok (.invokevirtual 49, 3) := by decide +kernel
theorem d31_83 : decode prog_4_method_4_code 83 = .ok (.return_, 1) := by decide +kernel
theorem b31 {X : mj_X} {d : Nat} {w : mj_W} {x0 : Nat} {x1 : Nat} {x2 : Int32} : mj_call X d 31 [.ref x0, .ref x1, .int x2] w = mj_exec X d 31 0 [some (.ref x0), some (.ref x1), some (.int x2), none, none] [] w := mw_ent mw_m31 (Nat.le_of_ble_eq_true rfl) rfl
theorem b31_0 {X : mj_X} {d : Nat} {s : mw_S} {k1 : Nat} {x2 : Int32} {l3 : Option Value} {l4 : Option Value} (h1 : mw_cl k1 = some 3) : mj_exec X d 31 0 [some (.ref 39), some (.ref k1), some (.int x2), l3, l4] [] (mw_U s) = if x2 = 0 then mj_exec X d 31 4 [some (.ref 39), some (.ref k1), some (.int x2), l3, l4] [] (mw_U s) else mj_exec X d 31 29 [some (.ref 39), some (.ref k1), some (.int x2), l3, l4] [] (mw_U s) := (mj_q_iload_n mw_m31 d31_0 rfl).trans (mj_q_if_ne mw_m31 d31_1 rfl)
theorem b31_4 {X : mj_X} {d : Nat} {s : mw_S} {k1 : Nat} {x2 : Int32} {l3 : Option Value} {l4 : Option Value} (h1 : mw_cl k1 = some 3) : mj_exec X (d + 1) 31 4 [some (.ref 39), some (.ref k1), some (.int x2), l3, l4] [] (mw_U s) = (mj_call X d 61 [.ref k1] (mw_U s)).bind (mj_bk X (d + 1) 31 9 [some (.ref 39), some (.ref k1), some (.int x2), l3, l4] [.ref 39]) := (mj_q_aload_n mw_m31 d31_4 rfl (by decide)).trans ((mj_q_aload_n mw_m31 d31_5 rfl (mw_neo h1)).trans (mw_q_callv mw_m31 rfl d31_6 mw_p2_18 mw_m61 rfl rfl (Nat.le_of_ble_eq_true rfl) (Nat.le_of_ble_eq_true rfl) rfl (mw_rcv h1) rfl rfl))
theorem b31_9 {X : mj_X} {d : Nat} {s : mw_S} {k1 : Nat} {x2 : Int32} {l3 : Option Value} {l4 : Option Value} {xs1 : Int32} (h1 : mw_cl k1 = some 3) : mj_exec X (d + 1) 31 9 [some (.ref 39), some (.ref k1), some (.int x2), l3, l4] [.int xs1, .ref 39] (mw_U s) = (mj_call X d 30 [.ref 39, .int xs1] (mw_U s)).bind (mj_bk X (d + 1) 31 12 [some (.ref 39), some (.ref k1), some (.int x2), l3, l4] []) := mw_q_callv mw_m31 rfl d31_9 mw_p2_14 mw_m30 rfl rfl (Nat.le_of_ble_eq_true rfl) (Nat.le_of_ble_eq_true rfl) rfl (mw_rcv mw_c_39) rfl rfl
theorem b31_12 {X : mj_X} {d : Nat} {s : mw_S} {k1 : Nat} {x2 : Int32} {l3 : Option Value} {l4 : Option Value} {xs0 : Int32} (h1 : mw_cl k1 = some 3) : mj_exec X (d + 1) 31 12 [some (.ref 39), some (.ref k1), some (.int x2), l3, l4] [.int xs0] (mw_U s) = (mj_call X d 59 [.ref k1, .int xs0] (mw_U s)).bind (mj_bk X (d + 1) 31 18 [some (.ref 39), some (.ref k1), some (.int x2), some (.int xs0), l4] []) := (mj_q_istore_n mw_m31 d31_12 (Nat.le_of_ble_eq_true rfl) rfl rfl).trans ((mj_q_aload_n mw_m31 d31_13 rfl (mw_neo h1)).trans ((mj_q_iload_n mw_m31 d31_14 rfl).trans (mw_q_callv mw_m31 rfl d31_15 mw_p2_33 mw_m59 rfl rfl (Nat.le_of_ble_eq_true rfl) (Nat.le_of_ble_eq_true rfl) rfl (mw_rcv h1) rfl rfl)))
theorem b31_18 {X : mj_X} {d : Nat} {s : mw_S} {k1 : Nat} {x2 : Int32} {x3 : Int32} {l4 : Option Value} {xs0 : Int32} (h1 : mw_cl k1 = some 3) : mj_exec X d 31 18 [some (.ref 39), some (.ref k1), some (.int x2), some (.int x3), l4] [.int xs0] (mw_U s) = if xs0 = 0 then mj_exec X d 31 26 [some (.ref 39), some (.ref k1), some (.int x2), some (.int x3), l4] [] (mw_U s) else mj_exec X d 31 21 [some (.ref 39), some (.ref k1), some (.int x2), some (.int x3), l4] [] (mw_U s) := mj_q_if_eq mw_m31 d31_18 rfl
theorem b31_21 {X : mj_X} {d : Nat} {s : mw_S} {k1 : Nat} {x2 : Int32} {x3 : Int32} {l4 : Option Value} (h1 : mw_cl k1 = some 3) : mj_exec X (d + 1) 31 21 [some (.ref 39), some (.ref k1), some (.int x2), some (.int x3), l4] [] (mw_U s) = (mj_call X d 54 [.ref k1, .int x3] (mw_U s)).bind (mj_bk X (d + 1) 31 26 [some (.ref 39), some (.ref k1), some (.int x2), some (.int x3), l4] []) := (mj_q_aload_n mw_m31 d31_21 rfl (mw_neo h1)).trans ((mj_q_iload_n mw_m31 d31_22 rfl).trans (mw_q_callv mw_m31 rfl d31_23 mw_p2_37 mw_m54 rfl rfl (Nat.le_of_ble_eq_true rfl) (Nat.le_of_ble_eq_true rfl) rfl (mw_rcv h1) rfl rfl))
theorem b31_26 {X : mj_X} {d : Nat} {s : mw_S} {k1 : Nat} {x2 : Int32} {x3 : Int32} {l4 : Option Value} (h1 : mw_cl k1 = some 3) : mj_exec X d 31 26 [some (.ref 39), some (.ref k1), some (.int x2), some (.int x3), l4] [] (mw_U s) = mj_exec X d 31 83 [some (.ref 39), some (.ref k1), some (.int x2), some (.int x3), l4] [] (mw_U s) := mj_q_goto mw_m31 d31_26 rfl
theorem b31_29 {X : mj_X} {d : Nat} {s : mw_S} {k1 : Nat} {x2 : Int32} {l3 : Option Value} {l4 : Option Value} (h1 : mw_cl k1 = some 3) : mj_exec X d 31 29 [some (.ref 39), some (.ref k1), some (.int x2), l3, l4] [] (mw_U s) = if x2 = (nI 1) then mj_exec X d 31 34 [some (.ref 39), some (.ref k1), some (.int x2), l3, l4] [] (mw_U s) else mj_exec X d 31 42 [some (.ref 39), some (.ref k1), some (.int x2), l3, l4] [] (mw_U s) := (mj_q_iload_n mw_m31 d31_29 rfl).trans ((mj_q_iconst mw_m31 d31_30 mw_k_iconst_1).trans (mj_q_icmp_ne mw_m31 d31_31 rfl))
theorem b31_34 {X : mj_X} {d : Nat} {s : mw_S} {k1 : Nat} {x2 : Int32} {l3 : Option Value} {l4 : Option Value} (h1 : mw_cl k1 = some 3) : mj_exec X (d + 1) 31 34 [some (.ref 39), some (.ref k1), some (.int x2), l3, l4] [] (mw_U s) = (mj_call X d 32 [.ref 39, .ref k1] (mw_U s)).bind (mj_bk X (d + 1) 31 39 [some (.ref 39), some (.ref k1), some (.int x2), l3, l4] []) := (mj_q_aload_n mw_m31 d31_34 rfl (by decide)).trans ((mj_q_aload_n mw_m31 d31_35 rfl (mw_neo h1)).trans (mw_q_callv mw_m31 rfl d31_36 mw_p2_41 mw_m32 rfl rfl (Nat.le_of_ble_eq_true rfl) (Nat.le_of_ble_eq_true rfl) rfl (mw_rcv mw_c_39) rfl rfl))
theorem b31_39 {X : mj_X} {d : Nat} {s : mw_S} {k1 : Nat} {x2 : Int32} {l3 : Option Value} {l4 : Option Value} (h1 : mw_cl k1 = some 3) : mj_exec X d 31 39 [some (.ref 39), some (.ref k1), some (.int x2), l3, l4] [] (mw_U s) = mj_exec X d 31 83 [some (.ref 39), some (.ref k1), some (.int x2), l3, l4] [] (mw_U s) := mj_q_goto mw_m31 d31_39 rfl
theorem b31_42 {X : mj_X} {d : Nat} {s : mw_S} {k1 : Nat} {x2 : Int32} {l3 : Option Value} {l4 : Option Value} (h1 : mw_cl k1 = some 3) : mj_exec X d 31 42 [some (.ref 39), some (.ref k1), some (.int x2), l3, l4] [] (mw_U s) = if x2 = (nI 2) then mj_exec X d 31 47 [some (.ref 39), some (.ref k1), some (.int x2), l3, l4] [] (mw_U s) else mj_exec X d 31 83 [some (.ref 39), some (.ref k1), some (.int x2), l3, l4] [] (mw_U s) := (mj_q_iload_n mw_m31 d31_42 rfl).trans ((mj_q_iconst mw_m31 d31_43 mw_k_iconst_2).trans (mj_q_icmp_ne mw_m31 d31_44 rfl))
theorem b31_47 {X : mj_X} {d : Nat} {s : mw_S} {k1 : Nat} {x2 : Int32} {l3 : Option Value} {l4 : Option Value} (h1 : mw_cl k1 = some 3) : mj_exec X (d + 1) 31 47 [some (.ref 39), some (.ref k1), some (.int x2), l3, l4] [] (mw_U s) = (mj_call X d 61 [.ref k1] (mw_U s)).bind (mj_bk X (d + 1) 31 52 [some (.ref 39), some (.ref k1), some (.int x2), l3, l4] [.ref 39]) := (mj_q_aload_n mw_m31 d31_47 rfl (by decide)).trans ((mj_q_aload_n mw_m31 d31_48 rfl (mw_neo h1)).trans (mw_q_callv mw_m31 rfl d31_49 mw_p2_18 mw_m61 rfl rfl (Nat.le_of_ble_eq_true rfl) (Nat.le_of_ble_eq_true rfl) rfl (mw_rcv h1) rfl rfl))
theorem b31_52 {X : mj_X} {d : Nat} {s : mw_S} {k1 : Nat} {x2 : Int32} {l3 : Option Value} {l4 : Option Value} {xs1 : Int32} (h1 : mw_cl k1 = some 3) : mj_exec X (d + 1) 31 52 [some (.ref 39), some (.ref k1), some (.int x2), l3, l4] [.int xs1, .ref 39] (mw_U s) = (mj_call X d 30 [.ref 39, .int xs1] (mw_U s)).bind (mj_bk X (d + 1) 31 55 [some (.ref 39), some (.ref k1), some (.int x2), l3, l4] []) := mw_q_callv mw_m31 rfl d31_52 mw_p2_14 mw_m30 rfl rfl (Nat.le_of_ble_eq_true rfl) (Nat.le_of_ble_eq_true rfl) rfl (mw_rcv mw_c_39) rfl rfl
theorem b31_55 {X : mj_X} {d : Nat} {s : mw_S} {k1 : Nat} {x2 : Int32} {l3 : Option Value} {l4 : Option Value} {xs0 : Int32} (h1 : mw_cl k1 = some 3) : mj_exec X (d + 1) 31 55 [some (.ref 39), some (.ref k1), some (.int x2), l3, l4] [.int xs0] (mw_U s) = (mj_call X d 61 [.ref k1] (mw_U s)).bind (mj_bk X (d + 1) 31 61 [some (.ref 39), some (.ref k1), some (.int x2), some (.int xs0), l4] [.ref 39]) := (mj_q_istore_n mw_m31 d31_55 (Nat.le_of_ble_eq_true rfl) rfl rfl).trans ((mj_q_aload_n mw_m31 d31_56 rfl (by decide)).trans ((mj_q_aload_n mw_m31 d31_57 rfl (mw_neo h1)).trans (mw_q_callv mw_m31 rfl d31_58 mw_p2_18 mw_m61 rfl rfl (Nat.le_of_ble_eq_true rfl) (Nat.le_of_ble_eq_true rfl) rfl (mw_rcv h1) rfl rfl)))
theorem b31_61 {X : mj_X} {d : Nat} {s : mw_S} {k1 : Nat} {x2 : Int32} {x3 : Int32} {l4 : Option Value} {xs1 : Int32} (h1 : mw_cl k1 = some 3) : mj_exec X (d + 1) 31 61 [some (.ref 39), some (.ref k1), some (.int x2), some (.int x3), l4] [.int xs1, .ref 39] (mw_U s) = (mj_call X d 30 [.ref 39, .int xs1] (mw_U s)).bind (mj_bk X (d + 1) 31 64 [some (.ref 39), some (.ref k1), some (.int x2), some (.int x3), l4] []) := mw_q_callv mw_m31 rfl d31_61 mw_p2_14 mw_m30 rfl rfl (Nat.le_of_ble_eq_true rfl) (Nat.le_of_ble_eq_true rfl) rfl (mw_rcv mw_c_39) rfl rfl
theorem b31_64 {X : mj_X} {d : Nat} {s : mw_S} {k1 : Nat} {x2 : Int32} {x3 : Int32} {l4 : Option Value} {xs0 : Int32} (h1 : mw_cl k1 = some 3) : mj_exec X (d + 1) 31 64 [some (.ref 39), some (.ref k1), some (.int x2), some (.int x3), l4] [.int xs0] (mw_U s) = (mj_call X d 63 [.ref k1, .int x3, .int xs0] (mw_U s)).bind (mj_bk X (d + 1) 31 73 [some (.ref 39), some (.ref k1), some (.int x2), some (.int x3), some (.int xs0)] []) := (mj_q_istore mw_m31 d31_64 (Nat.le_of_ble_eq_true rfl) rfl rfl).trans ((mj_q_aload_n mw_m31 d31_66 rfl (mw_neo h1)).trans ((mj_q_iload_n mw_m31 d31_67 rfl).trans ((mj_q_iload mw_m31 d31_68 rfl).trans (mw_q_callv mw_m31 rfl d31_70 mw_p2_45 mw_m63 rfl rfl (Nat.le_of_ble_eq_true rfl) (Nat.le_of_ble_eq_true rfl) rfl (mw_rcv h1) rfl rfl))))
theorem b31_73 {X : mj_X} {d : Nat} {s : mw_S} {k1 : Nat} {x2 : Int32} {x3 : Int32} {x4 : Int32} {xs0 : Int32} (h1 : mw_cl k1 = some 3) : mj_exec X d 31 73 [some (.ref 39), some (.ref k1), some (.int x2), some (.int x3), some (.int x4)] [.int xs0] (mw_U s) = if xs0 = 0 then mj_exec X d 31 83 [some (.ref 39), some (.ref k1), some (.int x2), some (.int x3), some (.int x4)] [] (mw_U s) else mj_exec X d 31 76 [some (.ref 39), some (.ref k1), some (.int x2), some (.int x3), some (.int x4)] [] (mw_U s) := mj_q_if_eq mw_m31 d31_73 rfl
theorem b31_76 {X : mj_X} {d : Nat} {s : mw_S} {k1 : Nat} {x2 : Int32} {x3 : Int32} {x4 : Int32} (h1 : mw_cl k1 = some 3) : mj_exec X (d + 1) 31 76 [some (.ref 39), some (.ref k1), some (.int x2), some (.int x3), some (.int x4)] [] (mw_U s) = (mj_call X d 70 [.ref k1, .int x3, .int x4] (mw_U s)).bind (mj_bk X (d + 1) 31 83 [some (.ref 39), some (.ref k1), some (.int x2), some (.int x3), some (.int x4)] []) := (mj_q_aload_n mw_m31 d31_76 rfl (mw_neo h1)).trans ((mj_q_iload_n mw_m31 d31_77 rfl).trans ((mj_q_iload mw_m31 d31_78 rfl).trans (mw_q_callv mw_m31 rfl d31_80 mw_p2_49 mw_m70 rfl rfl (Nat.le_of_ble_eq_true rfl) (Nat.le_of_ble_eq_true rfl) rfl (mw_rcv h1) rfl rfl)))
theorem b31_83 {X : mj_X} {d : Nat} {s : mw_S} {k1 : Nat} {x2 : Int32} {l3 : Option Value} {l4 : Option Value} (h1 : mw_cl k1 = some 3) : mj_exec X d 31 83 [some (.ref 39), some (.ref k1), some (.int x2), l3, l4] [] (mw_U s) = some (.inl none, mw_U s) := mj_q_vret mw_m31 d31_83 rfl
/-- WivesQuarrels$Fate.strikeUpQuarrel -/
theorem d32_0 : decode prog_4_method_5_code 0 = .ok (.aload_n 0, 1) := by decide +kernel
theorem d32_1 : decode prog_4_method_5_code 1 = .ok (.aload_n 1, 1) := by decide +kernel
theorem d32_2 : decode prog_4_method_5_code 2 = .ok (.invokevirtual 18, 3) := by decide +kernel
theorem d32_5 : decode prog_4_method_5_code 5 = .ok (.invokevirtual 14, 3) := by decide +kernel
theorem d32_8 : decode prog_4_method_5_code 8 = .ok (.istore_n 2, 1) := by decide +kernel
theorem d32_9 : decode prog_4_method_5_code 9 = .ok (.aload_n 0, 1) := by decide +kernel
theorem d32_10 : decode prog_4_method_5_code 10 = .ok (.aload_n 1, 1) := by decide +kernel
theorem d32_11 : decode prog_4_method_5_code 11 = .ok (.invokevirtual 18, 3) := by decide +kernel
theorem d32_14 : decode prog_4_method_5_code 14 = .ok (.invokevirtual 14, 3) := by decide +kernel
theorem d32_17 : decode prog_4_method_5_code 17 = .ok (.istore_n 3, 1) := by decide +kernel
theorem d32_18 : decode prog_4_method_5_code 18 = .ok (.aload_n 0, 1) := by decide +kernel
theorem d32_19 : decode prog_4_method_5_code 19 = .ok (.bipush 30, 2) := by decide +kernel
theorem d32_21 : decode prog_4_method_5_code 21 = .ok (.invokevirtual 14, 3) := by decide +kernel
theorem d32_24 : decode prog_4_method_5_code 24 = .ok (.iconst 1, 1) := by decide +kernel
theorem d32_25 : decode prog_4_method_5_code 25 = .ok (.iadd, 1) := by decide +kernel
theorem d32_26 : decode prog_4_method_5_code 26 = .ok (.istore 4, 2) := by decide +kernel
theorem d32_28 : decode prog_4_method_5_code 28 = .ok (.aload_n 0, 1) := by decide +kernel
theorem d32_29 : decode prog_4_method_5_code 29 = .ok (.bipush 10, 2) := by decide +kernel
theorem d32_31 : decode prog_4_method_5_code 31 = .ok (.invokevirtual 14, 3) := by decide +kernel
theorem d32_34 : decode prog_4_method_5_code 34 = .ok (.istore 5, 2) := by decide +kernel
theorem d32_36 : decode prog_4_method_5_code 36 = .ok (.aload_n 1, 1) := by decide +kernel
theorem d32_37 : decode prog_4_method_5_code 37 = .ok (.iload_n 2, 1) := by decide +kernel
theorem d32_38 : decode prog_4_method_5_code 38 = .ok (.iload_n 3, 1) := by decide +kernel
theorem d32_39 : decode prog_4_method_5_code 39 = .ok (.invokevirtual 53, 3) := by decide +kernel
theorem d32_42 : decode prog_4_method_5_code 42 = .ok (.ifCond .eq 16, 3) := by decide +kernel
theorem d32_45 : decode prog_4_method_5_code 45 = .ok (.aload_n 1, 1) := by decide +kernel
theorem d32_46 : decode prog_4_method_5_code 46 = .ok (.iload_n 2, 1) := by decide +kernel
theorem d32_47 : decode prog_4_method_5_code 47 = .ok (.iload_n 3, 1) := by decide +kernel
theorem d32_48 : decode prog_4_method_5_code 48 = .ok (.invokestatic 56, 3) := by decide +kernel
theorem d32_51 : decode prog_4_method_5_code 51 = .ok (.iload 4, 2) := by decide +kernel
theorem d32_53 : decode prog_4_method_5_code 53 = .ok (.iload 5, 2) := by decide +kernel
theorem d32_55 : decode prog_4_method_5_code 55 = .ok (.invokevirtual 62, 3) := by decide +kernel
theorem d32_58 : decode prog_4_method_5_code 58 = .ok (.return_, 1) := by decide +kernel
theorem b32 {X : mj_X} {d : Nat} {w : mj_W} {x0 : Nat} {x1 : Nat} : mj_call X d 32 [.ref x0, .ref x1] w = mj_exec X d 32 0 [some (.ref x0), some (.ref x1), none, none, none, none] [] w := mw_ent mw_m32 (Nat.le_of_ble_eq_true rfl) rfl
theorem b32_0 {X : mj_X} {d : Nat} {s : mw_S} {k1 : Nat} {l2 : Option Value} {l3 : Option Value} {l4 : Option Value} {l5 : Option Value} (h1 : mw_cl k1 = some 3) : mj_exec X (d + 1) 32 0 [some (.ref 39), some (.ref k1), l2, l3, l4, l5] [] (mw_U s) = (mj_call X d 61 [.ref k1] (mw_U s)).bind (mj_bk X (d + 1) 32 5 [some (.ref 39), some (.ref k1), l2, l3, l4, l5] [.ref 39]) := (mj_q_aload_n mw_m32 d32_0 rfl (by decide)).trans ((mj_q_aload_n mw_m32 d32_1 rfl (mw_neo h1)).trans (mw_q_callv mw_m32 rfl d32_2 mw_p2_18 mw_m61 rfl rfl (Nat.le_of_ble_eq_true rfl) (Nat.le_of_ble_eq_true rfl) rfl (mw_rcv h1) rfl rfl))
theorem b32_5 {X : mj_X} {d : Nat} {s : mw_S} {k1 : Nat} {l2 : Option Value} {l3 : Option Value} {l4 : Option Value} {l5 : Option Value} {xs1 : Int32} (h1 : mw_cl k1 = some 3) : mj_exec X (d + 1) 32 5 [some (.ref 39), some (.ref k1), l2, l3, l4, l5] [.int xs1, .ref 39] (mw_U s) = (mj_call X d 30 [.ref 39, .int xs1] (mw_U s)).bind (mj_bk X (d + 1) 32 8 [some (.ref 39), some (.ref k1), l2, l3, l4, l5] []) := mw_q_callv mw_m32 rfl d32_5 mw_p2_14 mw_m30 rfl rfl (Nat.le_of_ble_eq_true rfl) (Nat.le_of_ble_eq_true rfl) rfl (mw_rcv mw_c_39) rfl rfl
theorem b32_8 {X : mj_X} {d : Nat} {s : mw_S} {k1 : Nat} {l2 : Option Value} {l3 : Option Value} {l4 : Option Value} {l5 : Option Value} {xs0 : Int32} (h1 : mw_cl k1 = some 3) : mj_exec X (d + 1) 32 8 [some (.ref 39), some (.ref k1), l2, l3, l4, l5] [.int xs0] (mw_U s) = (mj_call X d 61 [.ref k1] (mw_U s)).bind (mj_bk X (d + 1) 32 14 [some (.ref 39), some (.ref k1), some (.int xs0), l3, l4, l5] [.ref 39]) := (mj_q_istore_n mw_m32 d32_8 (Nat.le_of_ble_eq_true rfl) rfl rfl).trans ((mj_q_aload_n mw_m32 d32_9 rfl (by decide)).trans ((mj_q_aload_n mw_m32 d32_10 rfl (mw_neo h1)).trans (mw_q_callv mw_m32 rfl d32_11 mw_p2_18 mw_m61 rfl rfl (Nat.le_of_ble_eq_true rfl) (Nat.le_of_ble_eq_true rfl) rfl (mw_rcv h1) rfl rfl)))
theorem b32_14 {X : mj_X} {d : Nat} {s : mw_S} {k1 : Nat} {x2 : Int32} {l3 : Option Value} {l4 : Option Value} {l5 : Option Value} {xs1 : Int32} (h1 : mw_cl k1 = some 3) : mj_exec X (d + 1) 32 14 [some (.ref 39), some (.ref k1), some (.int x2), l3, l4, l5] [.int xs1, .ref 39] (mw_U s) = (mj_call X d 30 [.ref 39, .int xs1] (mw_U s)).bind (mj_bk X (d + 1) 32 17 [some (.ref 39), some (.ref k1), some (.int x2), l3, l4, l5] []) := mw_q_callv mw_m32 rfl d32_14 mw_p2_14 mw_m30 rfl rfl (Nat.le_of_ble_eq_true rfl) (Nat.le_of_ble_eq_true rfl) rfl (mw_rcv mw_c_39) rfl rfl
theorem b32_17 {X : mj_X} {d : Nat} {s : mw_S} {k1 : Nat} {x2 : Int32} {l3 : Option Value} {l4 : Option Value} {l5 : Option Value} {xs0 : Int32} (h1 : mw_cl k1 = some 3) : mj_exec X (d + 1) 32 17 [some (.ref 39), some (.ref k1), some (.int x2), l3, l4, l5] [.int xs0] (mw_U s) = (mj_call X d 30 [.ref 39, .int (nI 30)] (mw_U s)).bind (mj_bk X (d + 1) 32 24 [some (.ref 39), some (.ref k1), some (.int x2), some (.int xs0), l4, l5] []) := (mj_q_istore_n mw_m32 d32_17 (Nat.le_of_ble_eq_true rfl) rfl rfl).trans ((mj_q_aload_n mw_m32 d32_18 rfl (by decide)).trans ((mj_q_bipush mw_m32 d32_19 mw_k_bipush_30).trans (mw_q_callv mw_m32 rfl d32_21 mw_p2_14 mw_m30 rfl rfl (Nat.le_of_ble_eq_true rfl) (Nat.le_of_ble_eq_true rfl) rfl (mw_rcv mw_c_39) rfl rfl)))
theorem b32_24 {X : mj_X} {d : Nat} {s : mw_S} {k1 : Nat} {x2 : Int32} {x3 : Int32} {l4 : Option Value} {l5 : Option Value} {xs0 : Int32} (h1 : mw_cl k1 = some 3) : mj_exec X (d + 1) 32 24 [some (.ref 39), some (.ref k1), some (.int x2), some (.int x3), l4, l5] [.int xs0] (mw_U s) = (mj_call X d 30 [.ref 39, .int (nI 10)] (mw_U s)).bind (mj_bk X (d + 1) 32 34 [some (.ref 39), some (.ref k1), some (.int x2), some (.int x3), some (.int (xs0 + (nI 1))), l5] []) := (mj_q_iconst mw_m32 d32_24 mw_k_iconst_1).trans ((mj_q_iadd mw_m32 d32_25).trans ((mj_q_istore mw_m32 d32_26 (Nat.le_of_ble_eq_true rfl) rfl rfl).trans ((mj_q_aload_n mw_m32 d32_28 rfl (by decide)).trans ((mj_q_bipush mw_m32 d32_29 mw_k_bipush_10).trans (mw_q_callv mw_m32 rfl d32_31 mw_p2_14 mw_m30 rfl rfl (Nat.le_of_ble_eq_true rfl) (Nat.le_of_ble_eq_true rfl) rfl (mw_rcv mw_c_39) rfl rfl)))))
theorem b32_34 {X : mj_X} {d : Nat} {s : mw_S} {k1 : Nat} {x2 : Int32} {x3 : Int32} {x4 : Int32} {l5 : Option Value} {xs0 : Int32} (h1 : mw_cl k1 = some 3) : mj_exec X (d + 1) 32 34 [some (.ref 39), some (.ref k1), some (.int x2), some (.int x3), some (.int x4), l5] [.int xs0] (mw_U s) = (mj_call X d 71 [.ref k1, .int x2, .int x3] (mw_U s)).bind (mj_bk X (d + 1) 32 42 [some (.ref 39), some (.ref k1), some (.int x2), some (.int x3), some (.int x4), some (.int xs0)] []) := (mj_q_istore mw_m32 d32_34 (Nat.le_of_ble_eq_true rfl) rfl rfl).trans ((mj_q_aload_n mw_m32 d32_36 rfl (mw_neo h1)).trans ((mj_q_iload_n mw_m32 d32_37 rfl).trans ((mj_q_iload_n mw_m32 d32_38 rfl).trans (mw_q_callv mw_m32 rfl d32_39 mw_p2_53 mw_m71 rfl rfl (Nat.le_of_ble_eq_true rfl) (Nat.le_of_ble_eq_true rfl) rfl (mw_rcv h1) rfl rfl))))
theorem b32_42 {X : mj_X} {d : Nat} {s : mw_S} {k1 : Nat} {x2 : Int32} {x3 : Int32} {x4 : Int32} {x5 : Int32} {xs0 : Int32} (h1 : mw_cl k1 = some 3) : mj_exec X d 32 42 [some (.ref 39), some (.ref k1), some (.int x2), some (.int x3), some (.int x4), some (.int x5)] [.int xs0] (mw_U s) = if xs0 = 0 then mj_exec X d 32 58 [some (.ref 39), some (.ref k1), some (.int x2), some (.int x3), some (.int x4), some (.int x5)] [] (mw_U s) else mj_exec X d 32 45 [some (.ref 39), some (.ref k1), some (.int x2), some (.int x3), some (.int x4), some (.int x5)] [] (mw_U s) := mj_q_if_eq mw_m32 d32_42 rfl
theorem b32_45 {X : mj_X} {d : Nat} {s : mw_S} {k1 : Nat} {x2 : Int32} {x3 : Int32} {x4 : Int32} {x5 : Int32} (h1 : mw_cl k1 = some 3) : mj_exec X (d + 1) 32 45 [some (.ref 39), some (.ref k1), some (.int x2), some (.int x3), some (.int x4), some (.int x5)] [] (mw_U s) = (mj_call X d 153 [.int x2, .int x3] (mw_U s)).bind (mj_bk X (d + 1) 32 51 [some (.ref 39), some (.ref k1), some (.int x2), some (.int x3), some (.int x4), some (.int x5)] [.ref k1]) := (mj_q_aload_n mw_m32 d32_45 rfl (mw_neo h1)).trans ((mj_q_iload_n mw_m32 d32_46 rfl).trans ((mj_q_iload_n mw_m32 d32_47 rfl).trans (mw_q_calln mw_m32 rfl d32_48 mw_p2_56 mw_m153 rfl rfl (Nat.le_of_ble_eq_true rfl) (Nat.le_of_ble_eq_true rfl) rfl rfl)))
theorem b32_51 {X : mj_X} {d : Nat} {s : mw_S} {k1 : Nat} {x2 : Int32} {x3 : Int32} {x4 : Int32} {x5 : Int32} {ks0 : Nat} {xs1 : Int32} (h1 : mw_cl k1 = some 3) (hs0 : mw_cl ks0 = some 3) : mj_exec X (d + 1) 32 51 [some (.ref 39), some (.ref k1), some (.int x2), some (.int x3), some (.int x4), some (.int x5)] [.int xs1, .ref ks0] (mw_U s) = (mj_call X d 57 [.ref ks0, .int xs1, .int x4, .int x5] (mw_U s)).bind (mj_bk X (d + 1) 32 58 [some (.ref 39), some (.ref k1), some (.int x2), some (.int x3), some (.int x4), some (.int x5)] []) := (mj_q_iload mw_m32 d32_51 rfl).trans ((mj_q_iload mw_m32 d32_53 rfl).trans (mw_q_callv mw_m32 rfl d32_55 mw_p2_62 mw_m57 rfl rfl (Nat.le_of_ble_eq_true rfl) (Nat.le_of_ble_eq_true rfl) rfl (mw_rcv hs0) rfl rfl))
theorem b32_58 {X : mj_X} {d : Nat} {s : mw_S} {k1 : Nat} {x2 : Int32} {x3 : Int32} {x4 : Int32} {x5 : Int32} (h1 : mw_cl k1 = some 3) : mj_exec X d 32 58 [some (.ref 39), some (.ref k1), some (.int x2), some (.int x3), some (.int x4), some (.int x5)] [] (mw_U s) = some (.inl none, mw_U s) := mj_q_vret mw_m32 d32_58 rfl
/-- WivesQuarrels$Guesses.holds -/
theorem d79_0 : decode prog_7_method_3_code 0 = .ok (.aload_n 0, 1) := by decide +kernel
theorem d79_1 : decode prog_7_method_3_code 1 = .ok (.aload_n 1, 1) := by decide +kernel
theorem d79_2 : decode prog_7_method_3_code 2 = .ok (.invokevirtual 26, 3) := by decide +kernel
theorem d79_5 : decode prog_7_method_3_code 5 = .ok (.iload_n 3, 1) := by decide +kernel
theorem d79_6 : decode prog_7_method_3_code 6 = .ok (.invokevirtual 44, 3) := by decide +kernel
theorem d79_9 : decode prog_7_method_3_code 9 = .ok (.aload_n 1, 1) := by decide +kernel
theorem d79_10 : decode prog_7_method_3_code 10 = .ok (.invokevirtual 48, 3) := by decide +kernel
theorem d79_13 : decode prog_7_method_3_code 13 = .ok (.istore 4, 2) := by decide +kernel
theorem d79_15 : decode prog_7_method_3_code 15 = .ok (.iconst 0, 1) := by decide +kernel
theorem d79_16 : decode prog_7_method_3_code 16 = .ok (.istore 5, 2) := by decide +kernel
theorem d79_18 : decode prog_7_method_3_code 18 = .ok (.iload 5, 2) := by decide +kernel
theorem d79_20 : decode prog_7_method_3_code 20 = .ok (.iload 4, 2) := by decide +kernel
theorem d79_22 : decode prog_7_method_3_code 22 = .ok (.if_icmp .gt 38, 3) := by decide +kernel
theorem d79_25 : decode prog_7_method_3_code 25 = .ok (.iload 5, 2) := by decide +kernel
theorem d79_27 : decode prog_7_method_3_code 27 = .ok (.ifCond .le 12, 3) := by decide +kernel
theorem d79_30 : decode prog_7_method_3_code 30 = .ok (.aload_n 2, 1) := by decide +kernel
theorem d79_31 : decode prog_7_method_3_code 31 = .ok (.aload_n 0, 1) := by decide +kernel
theorem d79_32 : decode prog_7_method_3_code 32 = .ok (.getfield 12, 3) := by decide +kernel
theorem d79_35 : decode prog_7_method_3_code 35 = .ok (.iconst 1, 1) := by decide +kernel
theorem d79_36 : decode prog_7_method_3_code 36 = .ok (.invokevirtual 52, 3) := by decide +kernel
theorem d79_39 : decode prog_7_method_3_code 39 = .ok (.aload_n 1, 1) := by decide +kernel
theorem d79_40 : decode prog_7_method_3_code 40 = .ok (.aload_n 0, 1) := by decide +kernel
theorem d79_41 : decode prog_7_method_3_code 41 = .ok (.getfield 12, 3) := by decide +kernel
theorem d79_44 : decode prog_7_method_3_code 44 = .ok (.iload 5, 2) := by decide +kernel
theorem d79_46 : decode prog_7_method_3_code 46 = .ok (.invokevirtual 57, 3) := by decide +kernel
theorem d79_49 : decode prog_7_method_3_code 49 = .ok (.ifCond .ne 5, 3) := by decide +kernel
theorem d79_52 : decode prog_7_method_3_code 52 = .ok (.iconst 0, 1) := by decide +kernel
theorem d79_53 : decode prog_7_method_3_code 53 = .ok (.ireturn, 1) := by decide +kernel
theorem d79_54 : decode prog_7_method_3_code 54 = .ok (.iinc 5 1, 3) := by decide +kernel
theorem d79_57 : decode prog_7_method_3_code 57 = .ok (.goto (-39), 3) := by decide +kernel
theorem d79_60 : decode prog_7_method_3_code 60 = .ok (.iconst 1, 1) := by decide +kernel
theorem d79_61 : decode prog_7_method_3_code 61 = .ok (.ireturn, 1) := by decide +kernel
theorem b79 {X : mj_X} {d : Nat} {w : mj_W} {x0 : Nat} {x1 : Nat} {x2 : Nat} {x3 : Int32} : mj_call X d 79 [.ref x0, .ref x1, .ref x2, .int x3] w = mj_exec X d 79 0 [some (.ref x0), some (.ref x1), some (.ref x2), some (.int x3), none, none] [] w := mw_ent mw_m79 (Nat.le_of_ble_eq_true rfl) rfl
theorem b79_0 {X : mj_X} {d : Nat} {s : mw_S} {k1 : Nat} {k2 : Nat} {x3 : Int32} {l4 : Option Value} {l5 : Option Value} (h1 : mw_cl k1 = some 0) (h2 : mw_cl k2 = some 6) : mj_exec X (d + 1) 79 0 [some (.ref 34), some (.ref k1), some (.ref k2), some (.int x3), l4, l5] [] (mw_U s) = (mj_call X d 1 [.ref k1] (mw_U s)).bind (mj_bk X (d + 1) 79 5 [some (.ref 34), some (.ref k1), some (.ref k2), some (.int x3), l4, l5] [.ref 34]) := (mj_q_aload_n mw_m79 d79_0 rfl (by decide)).trans ((mj_q_aload_n mw_m79 d79_1 rfl (mw_neo h1)).trans (mw_q_callv mw_m79 rfl d79_2 mw_p4_26 mw_m1 rfl rfl (Nat.le_of_ble_eq_true rfl) (Nat.le_of_ble_eq_true rfl) rfl (mw_rcv h1) rfl rfl))
theorem b79_5 {X : mj_X} {d : Nat} {s : mw_S} {k1 : Nat} {k2 : Nat} {x3 : Int32} {l4 : Option Value} {l5 : Option Value} {ks1 : Nat} (h1 : mw_cl k1 = some 0) (h2 : mw_cl k2 = some 6) (hs1 : mw_cl ks1 = some 3) : mj_exec X (d + 1) 79 5 [some (.ref 34), some (.ref k1), some (.ref k2), some (.int x3), l4, l5] [.ref ks1, .ref 34] (mw_U s) = (mj_call X d 80 [.ref 34, .ref ks1, .int x3] (mw_U s)).bind (mj_bk X (d + 1) 79 9 [some (.ref 34), some (.ref k1), some (.ref k2), some (.int x3), l4, l5] []) := (mj_q_iload_n mw_m79 d79_5 rfl).trans (mw_q_callv mw_m79 rfl d79_6 mw_p4_44 mw_m80 rfl rfl (Nat.le_of_ble_eq_true rfl) (Nat.le_of_ble_eq_true rfl) rfl (mw_rcv mw_c_34) rfl rfl)
theorem b79_9 {X : mj_X} {d : Nat} {s : mw_S} {k1 : Nat} {k2 : Nat} {x3 : Int32} {l4 : Option Value} {l5 : Option Value} (h1 : mw_cl k1 = some 0) (h2 : mw_cl k2 = some 6) : mj_exec X (d + 1) 79 9 [some (.ref 34), some (.ref k1), some (.ref k2), some (.int x3), l4, l5] [] (mw_U s) = (mj_call X d 12 [.ref k1] (mw_U s)).bind (mj_bk X (d + 1) 79 13 [some (.ref 34), some (.ref k1), some (.ref k2), some (.int x3), l4, l5] []) := (mj_q_aload_n mw_m79 d79_9 rfl (mw_neo h1)).trans (mw_q_callv mw_m79 rfl d79_10 mw_p4_48 mw_m12 rfl rfl (Nat.le_of_ble_eq_true rfl) (Nat.le_of_ble_eq_true rfl) rfl (mw_rcv h1) rfl rfl)
theorem b79_13 {X : mj_X} {d : Nat} {s : mw_S} {k1 : Nat} {k2 : Nat} {x3 : Int32} {l4 : Option Value} {l5 : Option Value} {xs0 : Int32} (h1 : mw_cl k1 = some 0) (h2 : mw_cl k2 = some 6) : mj_exec X d 79 13 [some (.ref 34), some (.ref k1), some (.ref k2), some (.int x3), l4, l5] [.int xs0] (mw_U s) = mj_exec X d 79 18 [some (.ref 34), some (.ref k1), some (.ref k2), some (.int x3), some (.int xs0), some (.int (nI 0))] [] (mw_U s) := (mj_q_istore mw_m79 d79_13 (Nat.le_of_ble_eq_true rfl) rfl rfl).trans ((mj_q_iconst mw_m79 d79_15 mw_k_iconst_0).trans (mj_q_istore mw_m79 d79_16 (Nat.le_of_ble_eq_true rfl) rfl rfl))
theorem b79_18 {X : mj_X} {d : Nat} {s : mw_S} {k1 : Nat} {k2 : Nat} {x3 : Int32} {x4 : Int32} {x5 : Int32} (h1 : mw_cl k1 = some 0) (h2 : mw_cl k2 = some 6) : mj_exec X d 79 18 [some (.ref 34), some (.ref k1), some (.ref k2), some (.int x3), some (.int x4), some (.int x5)] [] (mw_U s) = if x4 < x5 then mj_exec X d 79 60 [some (.ref 34), some (.ref k1), some (.ref k2), some (.int x3), some (.int x4), some (.int x5)] [] (mw_U s) else mj_exec X d 79 25 [some (.ref 34), some (.ref k1), some (.ref k2), some (.int x3), some (.int x4), some (.int x5)] [] (mw_U s) := (mj_q_iload mw_m79 d79_18 rfl).trans ((mj_q_iload mw_m79 d79_20 rfl).trans (mj_q_icmp_gt mw_m79 d79_22 rfl))
theorem b79_25 {X : mj_X} {d : Nat} {s : mw_S} {k1 : Nat} {k2 : Nat} {x3 : Int32} {x4 : Int32} {x5 : Int32} (h1 : mw_cl k1 = some 0) (h2 : mw_cl k2 = some 6) : mj_exec X d 79 25 [some (.ref 34), some (.ref k1), some (.ref k2), some (.int x3), some (.int x4), some (.int x5)] [] (mw_U s) = if x5 ≤ 0 then mj_exec X d 79 39 [some (.ref 34), some (.ref k1), some (.ref k2), some (.int x3), some (.int x4), some (.int x5)] [] (mw_U s) else mj_exec X d 79 30 [some (.ref 34), some (.ref k1), some (.ref k2), some (.int x3), some (.int x4), some (.int x5)] [] (mw_U s) := (mj_q_iload mw_m79 d79_25 rfl).trans (mj_q_if_le mw_m79 d79_27 rfl)
theorem b79_30 {X : mj_X} {d : Nat} {s : mw_S} {k1 : Nat} {k2 : Nat} {x3 : Int32} {x4 : Int32} {x5 : Int32} (h1 : mw_cl k1 = some 0) (h2 : mw_cl k2 = some 6) : mj_exec X (d + 1) 79 30 [some (.ref 34), some (.ref k1), some (.ref k2), some (.int x3), some (.int x4), some (.int x5)] [] (mw_U s) = (mj_call X d 112 [.ref k2, .ref 35, .int (nI 1)] (mw_U s)).bind (mj_bk X (d + 1) 79 39 [some (.ref 34), some (.ref k1), some (.ref k2), some (.int x3), some (.int x4), some (.int x5)] []) := (mj_q_aload_n mw_m79 d79_30 rfl (mw_neo h2)).trans ((mj_q_aload_n mw_m79 d79_31 rfl (by decide)).trans ((mw_q_getr mw_m79 d79_32 mw_p4_12 mw_c_34 mw_f_34_0).trans ((mj_q_iconst mw_m79 d79_35 mw_k_iconst_1).trans (mw_q_callv mw_m79 rfl d79_36 mw_p4_52 mw_m112 rfl rfl (Nat.le_of_ble_eq_true rfl) (Nat.le_of_ble_eq_true rfl) rfl (mw_rcv h2) rfl rfl))))
theorem b79_39 {X : mj_X} {d : Nat} {s : mw_S} {k1 : Nat} {k2 : Nat} {x3 : Int32} {x4 : Int32} {x5 : Int32} (h1 : mw_cl k1 = some 0) (h2 : mw_cl k2 = some 6) : mj_exec X (d + 1) 79 39 [some (.ref 34), some (.ref k1), some (.ref k2), some (.int x3), some (.int x4), some (.int x5)] [] (mw_U s) = (mj_call X d 13 [.ref k1, .ref 35, .int x5] (mw_U s)).bind (mj_bk X (d + 1) 79 49 [some (.ref 34), some (.ref k1), some (.ref k2), some (.int x3), some (.int x4), some (.int x5)] []) := (mj_q_aload_n mw_m79 d79_39 rfl (mw_neo h1)).trans ((mj_q_aload_n mw_m79 d79_40 rfl (by decide)).trans ((mw_q_getr mw_m79 d79_41 mw_p4_12 mw_c_34 mw_f_34_0).trans ((mj_q_iload mw_m79 d79_44 rfl).trans (mw_q_callv mw_m79 rfl d79_46 mw_p4_57 mw_m13 rfl rfl (Nat.le_of_ble_eq_true rfl) (Nat.le_of_ble_eq_true rfl) rfl (mw_rcv h1) rfl rfl))))
theorem b79_49 {X : mj_X} {d : Nat} {s : mw_S} {k1 : Nat} {k2 : Nat} {x3 : Int32} {x4 : Int32} {x5 : Int32} {xs0 : Int32} (h1 : mw_cl k1 = some 0) (h2 : mw_cl k2 = some 6) : mj_exec X d 79 49 [some (.ref 34), some (.ref k1), some (.ref k2), some (.int x3), some (.int x4), some (.int x5)] [.int xs0] (mw_U s) = if xs0 = 0 then mj_exec X d 79 52 [some (.ref 34), some (.ref k1), some (.ref k2), some (.int x3), some (.int x4), some (.int x5)] [] (mw_U s) else mj_exec X d 79 54 [some (.ref 34), some (.ref k1), some (.ref k2), some (.int x3), some (.int x4), some (.int x5)] [] (mw_U s) := mj_q_if_ne mw_m79 d79_49 rfl
theorem b79_52 {X : mj_X} {d : Nat} {s : mw_S} {k1 : Nat} {k2 : Nat} {x3 : Int32} {x4 : Int32} {x5 : Int32} (h1 : mw_cl k1 = some 0) (h2 : mw_cl k2 = some 6) : mj_exec X d 79 52 [some (.ref 34), some (.ref k1), some (.ref k2), some (.int x3), some (.int x4), some (.int x5)] [] (mw_U s) = some (.inl (some (.int (nI 0))), mw_U s) := (mj_q_iconst mw_m79 d79_52 mw_k_iconst_0).trans (mj_q_iret mw_m79 d79_53 (by decide))
theorem b79_54 {X : mj_X} {d : Nat} {s : mw_S} {k1 : Nat} {k2 : Nat} {x3 : Int32} {x4 : Int32} {x5 : Int32} (h1 : mw_cl k1 = some 0) (h2 : mw_cl k2 = some 6) : mj_exec X d 79 54 [some (.ref 34), some (.ref k1), some (.ref k2), some (.int x3), some (.int x4), some (.int x5)] [] (mw_U s) = mj_exec X d 79 18 [some (.ref 34), some (.ref k1), some (.ref k2), some (.int x3), some (.int x4), some (.int (x5 + (nI 1)))] [] (mw_U s) := (mj_q_iinc mw_m79 d79_54 rfl (Nat.le_of_ble_eq_true rfl) rfl mw_k_iconst_1 rfl).trans (mj_q_goto mw_m79 d79_57 rfl)
theorem b79_60 {X : mj_X} {d : Nat} {s : mw_S} {k1 : Nat} {k2 : Nat} {x3 : Int32} {x4 : Int32} {x5 : Int32} (h1 : mw_cl k1 = some 0) (h2 : mw_cl k2 = some 6) : mj_exec X d 79 60 [some (.ref 34), some (.ref k1), some (.ref k2), some (.int x3), some (.int x4), some (.int x5)] [] (mw_U s) = some (.inl (some (.int (nI 1))), mw_U s) := (mj_q_iconst mw_m79 d79_60 mw_k_iconst_1).trans (mj_q_iret mw_m79 d79_61 (by decide))
/-- WivesQuarrels$Guesses.suppose -/
theorem d80_0 : decode prog_7_method_4_code 0 = .ok (.aload_n 0, 1) := by decide +kernel
theorem d80_1 : decode prog_7_method_4_code 1 = .ok (.getfield 12, 3) := by decide +kernel
theorem d80_4 : decode prog_7_method_4_code 4 = .ok (.aload_n 1, 1) := by decide +kernel
theorem d80_5 : decode prog_7_method_4_code 5 = .ok (.invokevirtual 61, 3) := by decide +kernel
theorem d80_8 : decode prog_7_method_4_code 8 = .ok (.iload_n 2, 1) := by decide +kernel
theorem d80_9 : decode prog_7_method_4_code 9 = .ok (.ifCond .lt 24, 3) := by decide +kernel
theorem d80_12 : decode prog_7_method_4_code 12 = .ok (.iload_n 2, 1) := by decide +kernel
theorem d80_13 : decode prog_7_method_4_code 13 = .ok (.bipush 80, 2) := by decide +kernel
theorem d80_15 : decode prog_7_method_4_code 15 = .ok (.if_icmp .ge 18, 3) := by decide +kernel
theorem d80_18 : decode prog_7_method_4_code 18 = .ok (.aload_n 0, 1) := by decide +kernel
theorem d80_19 : decode prog_7_method_4_code 19 = .ok (.getfield 12, 3) := by decide +kernel
theorem d80_22 : decode prog_7_method_4_code 22 = .ok (.iload_n 2, 1) := by decide +kernel
theorem d80_23 : decode prog_7_method_4_code 23 = .ok (.bipush 10, 2) := by decide +kernel
theorem d80_25 : decode prog_7_method_4_code 25 = .ok (.idiv, 1) := by decide +kernel
theorem d80_26 : decode prog_7_method_4_code 26 = .ok (.iload_n 2, 1) := by decide +kernel
theorem d80_27 : decode prog_7_method_4_code 27 = .ok (.bipush 10, 2) := by decide +kernel
theorem d80_29 : decode prog_7_method_4_code 29 = .ok (.irem, 1) := by decide +kernel
theorem d80_30 : decode prog_7_method_4_code 30 = .ok (.invokevirtual 65, 3) := by decide +kernel
theorem d80_33 : decode prog_7_method_4_code 33 = .ok (.return_, 1) := by decide +kernel
theorem b80 {X : mj_X} {d : Nat} {w : mj_W} {x0 : Nat} {x1 : Nat} {x2 : Int32} : mj_call X d 80 [.ref x0, .ref x1, .int x2] w = mj_exec X d 80 0 [some (.ref x0), some (.ref x1), some (.int x2)] [] w := mw_ent mw_m80 (Nat.le_of_ble_eq_true rfl) rfl
theorem b80_0 {X : mj_X} {d : Nat} {s : mw_S} {k1 : Nat} {x2 : Int32} (h1 : mw_cl k1 = some 3) : mj_exec X (d + 1) 80 0 [some (.ref 34), some (.ref k1), some (.int x2)] [] (mw_U s) = (mj_call X d 47 [.ref 35, .ref k1] (mw_U s)).bind (mj_bk X (d + 1) 80 8 [some (.ref 34), some (.ref k1), some (.int x2)] []) := (mj_q_aload_n mw_m80 d80_0 rfl (by decide)).trans ((mw_q_getr mw_m80 d80_1 mw_p4_12 mw_c_34 mw_f_34_0).trans ((mj_q_aload_n mw_m80 d80_4 rfl (mw_neo h1)).trans (mw_q_callv mw_m80 rfl d80_5 mw_p4_61 mw_m47 rfl rfl (Nat.le_of_ble_eq_true rfl) (Nat.le_of_ble_eq_true rfl) rfl (mw_rcv mw_c_35) rfl rfl)))
theorem b80_8 {X : mj_X} {d : Nat} {s : mw_S} {k1 : Nat} {x2 : Int32} (h1 : mw_cl k1 = some 3) : mj_exec X d 80 8 [some (.ref 34), some (.ref k1), some (.int x2)] [] (mw_U s) = if x2 < 0 then mj_exec X d 80 33 [some (.ref 34), some (.ref k1), some (.int x2)] [] (mw_U s) else mj_exec X d 80 12 [some (.ref 34), some (.ref k1), some (.int x2)] [] (mw_U s) := (mj_q_iload_n mw_m80 d80_8 rfl).trans (mj_q_if_lt mw_m80 d80_9 rfl)
theorem b80_12 {X : mj_X} {d : Nat} {s : mw_S} {k1 : Nat} {x2 : Int32} (h1 : mw_cl k1 = some 3) : mj_exec X d 80 12 [some (.ref 34), some (.ref k1), some (.int x2)] [] (mw_U s) = if (nI 80) ≤ x2 then mj_exec X d 80 33 [some (.ref 34), some (.ref k1), some (.int x2)] [] (mw_U s) else mj_exec X d 80 18 [some (.ref 34), some (.ref k1), some (.int x2)] [] (mw_U s) := (mj_q_iload_n mw_m80 d80_12 rfl).trans ((mj_q_bipush mw_m80 d80_13 mw_k_bipush_80).trans (mj_q_icmp_ge mw_m80 d80_15 rfl))
theorem b80_18 {X : mj_X} {d : Nat} {s : mw_S} {k1 : Nat} {x2 : Int32} (h1 : mw_cl k1 = some 3) : mj_exec X (d + 1) 80 18 [some (.ref 34), some (.ref k1), some (.int x2)] [] (mw_U s) = if mw_nz (nI 10) = true then if mw_nz (nI 10) = true then (mj_call X d 77 [.ref 35, .int (x2 / (nI 10)), .int (x2 - x2 / (nI 10) * (nI 10))] (mw_U s)).bind (mj_bk X (d + 1) 80 33 [some (.ref 34), some (.ref k1), some (.int x2)] []) else none else none := (mj_q_aload_n mw_m80 d80_18 rfl (by decide)).trans ((mw_q_getr mw_m80 d80_19 mw_p4_12 mw_c_34 mw_f_34_0).trans ((mj_q_iload_n mw_m80 d80_22 rfl).trans ((mj_q_bipush mw_m80 d80_23 mw_k_bipush_10).trans ((mw_h_idiv mw_m80 d80_25).trans (mw_g ((mj_q_iload_n mw_m80 d80_26 rfl).trans ((mj_q_bipush mw_m80 d80_27 mw_k_bipush_10).trans ((mw_h_irem mw_m80 d80_29).trans (mw_g (mw_q_callv mw_m80 rfl d80_30 mw_p4_65 mw_m77 rfl rfl (Nat.le_of_ble_eq_true rfl) (Nat.le_of_ble_eq_true rfl) rfl (mw_rcv mw_c_35) rfl rfl))))))))))
theorem b80_33 {X : mj_X} {d : Nat} {s : mw_S} {k1 : Nat} {x2 : Int32} (h1 : mw_cl k1 = some 3) : mj_exec X d 80 33 [some (.ref 34), some (.ref k1), some (.int x2)] [] (mw_U s) = some (.inl none, mw_U s) := mj_q_vret mw_m80 d80_33 rfl
/-- WivesQuarrels$Guesses.weigh -/
theorem d81_0 : decode prog_7_method_2_code 0 = .ok (.aload_n 1, 1) := by decide +kernel
theorem d81_1 : decode prog_7_method_2_code 1 = .ok (.invokevirtual 26, 3) := by decide +kernel
theorem d81_4 : decode prog_7_method_2_code 4 = .ok (.astore_n 3, 1) := by decide +kernel
theorem d81_5 : decode prog_7_method_2_code 5 = .ok (.iconst 0, 1) := by decide +kernel
theorem d81_6 : decode prog_7_method_2_code 6 = .ok (.istore 4, 2) := by decide +kernel
theorem d81_8 : decode prog_7_method_2_code 8 = .ok (.iload 4, 2) := by decide +kernel
theorem d81_10 : decode prog_7_method_2_code 10 = .ok (.bipush 80, 2) := by decide +kernel
theorem d81_12 : decode prog_7_method_2_code 12 = .ok (.if_icmp .ge 74, 3) := by decide +kernel
theorem d81_15 : decode prog_7_method_2_code 15 = .ok (.iload 4, 2) := by decide +kernel
theorem d81_17 : decode prog_7_method_2_code 17 = .ok (.bipush 10, 2) := by decide +kernel
theorem d81_19 : decode prog_7_method_2_code 19 = .ok (.idiv, 1) := by decide +kernel
theorem d81_20 : decode prog_7_method_2_code 20 = .ok (.istore 5, 2) := by decide +kernel
theorem d81_22 : decode prog_7_method_2_code 22 = .ok (.aload_n 3, 1) := by decide +kernel
theorem d81_23 : decode prog_7_method_2_code 23 = .ok (.iload 5, 2) := by decide +kernel
theorem d81_25 : decode prog_7_method_2_code 25 = .ok (.invokevirtual 32, 3) := by decide +kernel
theorem d81_28 : decode prog_7_method_2_code 28 = .ok (.ifCond .eq 21, 3) := by decide +kernel
theorem d81_31 : decode prog_7_method_2_code 31 = .ok (.aload_n 3, 1) := by decide +kernel
theorem d81_32 : decode prog_7_method_2_code 32 = .ok (.iload 5, 2) := by decide +kernel
theorem d81_34 : decode prog_7_method_2_code 34 = .ok (.invokevirtual 36, 3) := by decide +kernel
theorem d81_37 : decode prog_7_method_2_code 37 = .ok (.iload 4, 2) := by decide +kernel
theorem d81_39 : decode prog_7_method_2_code 39 = .ok (.bipush 10, 2) := by decide +kernel
theorem d81_41 : decode prog_7_method_2_code 41 = .ok (.irem, 1) := by decide +kernel
theorem d81_42 : decode prog_7_method_2_code 42 = .ok (.if_icmp .eq 7, 3) := by decide +kernel
theorem d81_45 : decode prog_7_method_2_code 45 = .ok (.iconst 1, 1) := by decide +kernel
theorem d81_46 : decode prog_7_method_2_code 46 = .ok (.goto 4, 3) := by decide +kernel
theorem d81_49 : decode prog_7_method_2_code 49 = .ok (.iconst 0, 1) := by decide +kernel
theorem d81_50 : decode prog_7_method_2_code 50 = .ok (.istore 6, 2) := by decide +kernel
theorem d81_52 : decode prog_7_method_2_code 52 = .ok (.aload_n 0, 1) := by decide +kernel
theorem d81_53 : decode prog_7_method_2_code 53 = .ok (.getfield 18, 3) := by decide +kernel
theorem d81_56 : decode prog_7_method_2_code 56 = .ok (.iload 4, 2) := by decide +kernel
theorem d81_58 : decode prog_7_method_2_code 58 = .ok (.iload 6, 2) := by decide +kernel
theorem d81_60 : decode prog_7_method_2_code 60 = .ok (.ifCond .eq 18, 3) := by decide +kernel
theorem d81_63 : decode prog_7_method_2_code 63 = .ok (.aload_n 0, 1) := by decide +kernel
theorem d81_64 : decode prog_7_method_2_code 64 = .ok (.aload_n 1, 1) := by decide +kernel
theorem d81_65 : decode prog_7_method_2_code 65 = .ok (.aload_n 2, 1) := by decide +kernel
theorem d81_66 : decode prog_7_method_2_code 66 = .ok (.iload 4, 2) := by decide +kernel
theorem d81_68 : decode prog_7_method_2_code 68 = .ok (.invokevirtual 40, 3) := by decide +kernel
theorem d81_71 : decode prog_7_method_2_code 71 = .ok (.ifCond .eq 7, 3) := by decide +kernel
theorem d81_74 : decode prog_7_method_2_code 74 = .ok (.iconst 1, 1) := by decide +kernel
theorem d81_75 : decode prog_7_method_2_code 75 = .ok (.goto 4, 3) := by decide +kernel
theorem d81_78 : decode prog_7_method_2_code 78 = .ok (.iconst 0, 1) := by decide +kernel
theorem d81_79 : decode prog_7_method_2_code 79 = .ok (.bastore, 1) := by decide +kernel
theorem d81_80 : decode prog_7_method_2_code 80 = .ok (.iinc 4 1, 3) := by decide +kernel
theorem d81_83 : decode prog_7_method_2_code 83 = .ok (.goto (-75), 3) := by decide +kernel
theorem d81_86 : decode prog_7_method_2_code 86 = .ok (.return_, 1) := by decide +kernel
theorem b81 {X : mj_X} {d : Nat} {w : mj_W} {x0 : Nat} {x1 : Nat} {x2 : Nat} : mj_call X d 81 [.ref x0, .ref x1, .ref x2] w = mj_exec X d 81 0 [some (.ref x0), some (.ref x1), some (.ref x2), none, none, none, none] [] w := mw_ent mw_m81 (Nat.le_of_ble_eq_true rfl) rfl
theorem b81_0 {X : mj_X} {d : Nat} {s : mw_S} {k1 : Nat} {k2 : Nat} {l3 : Option Value} {l4 : Option Value} {l5 : Option Value} {l6 : Option Value} (h1 : mw_cl k1 = some 0) (h2 : mw_cl k2 = some 6) : mj_exec X (d + 1) 81 0 [some (.ref 34), some (.ref k1), some (.ref k2), l3, l4, l5, l6] [] (mw_U s) = (mj_call X d 1 [.ref k1] (mw_U s)).bind (mj_bk X (d + 1) 81 4 [some (.ref 34), some (.ref k1), some (.ref k2), l3, l4, l5, l6] []) := (mj_q_aload_n mw_m81 d81_0 rfl (mw_neo h1)).trans (mw_q_callv mw_m81 rfl d81_1 mw_p4_26 mw_m1 rfl rfl (Nat.le_of_ble_eq_true rfl) (Nat.le_of_ble_eq_true rfl) rfl (mw_rcv h1) rfl rfl)
theorem b81_4 {X : mj_X} {d : Nat} {s : mw_S} {k1 : Nat} {k2 : Nat} {l3 : Option Value} {l4 : Option Value} {l5 : Option Value} {l6 : Option Value} {ks0 : Nat} (h1 : mw_cl k1 = some 0) (h2 : mw_cl k2 = some 6) (hs0 : mw_cl ks0 = some 3) : mj_exec X d 81 4 [some (.ref 34), some (.ref k1), some (.ref k2), l3, l4, l5, l6] [.ref ks0] (mw_U s) = mj_exec X d 81 8 [some (.ref 34), some (.ref k1), some (.ref k2), some (.ref ks0), some (.int (nI 0)), l5, l6] [] (mw_U s) := (mj_q_astore_n mw_m81 d81_4 (Nat.le_of_ble_eq_true rfl) rfl rfl (mw_neo hs0)).trans ((mj_q_iconst mw_m81 d81_5 mw_k_iconst_0).trans (mj_q_istore mw_m81 d81_6 (Nat.le_of_ble_eq_true rfl) rfl rfl))
theorem b81_8 {X : mj_X} {d : Nat} {s : mw_S} {k1 : Nat} {k2 : Nat} {k3 : Nat} {x4 : Int32} {l5 : Option Value} {l6 : Option Value} (h1 : mw_cl k1 = some 0) (h2 : mw_cl k2 = some 6) (h3 : mw_cl k3 = some 3) : mj_exec X d 81 8 [some (.ref 34), some (.ref k1), some (.ref k2), some (.ref k3), some (.int x4), l5, l6] [] (mw_U s) = if (nI 80) ≤ x4 then mj_exec X d 81 86 [some (.ref 34), some (.ref k1), some (.ref k2), some (.ref k3), some (.int x4), l5, l6] [] (mw_U s) else mj_exec X d 81 15 [some (.ref 34), some (.ref k1), some (.ref k2), some (.ref k3), some (.int x4), l5, l6] [] (mw_U s) := (mj_q_iload mw_m81 d81_8 rfl).trans ((mj_q_bipush mw_m81 d81_10 mw_k_bipush_80).trans (mj_q_icmp_ge mw_m81 d81_12 rfl))
theorem b81_15 {X : mj_X} {d : Nat} {s : mw_S} {k1 : Nat} {k2 : Nat} {k3 : Nat} {x4 : Int32} {l5 : Option Value} {l6 : Option Value} (h1 : mw_cl k1 = some 0) (h2 : mw_cl k2 = some 6) (h3 : mw_cl k3 = some 3) : mj_exec X (d + 1) 81 15 [some (.ref 34), some (.ref k1), some (.ref k2), some (.ref k3), some (.int x4), l5, l6] [] (mw_U s) = if mw_nz (nI 10) = true then (mj_call X d 59 [.ref k3, .int (x4 / (nI 10))] (mw_U s)).bind (mj_bk X (d + 1) 81 28 [some (.ref 34), some (.ref k1), some (.ref k2), some (.ref k3), some (.int x4), some (.int (x4 / (nI 10))), l6] []) else none := (mj_q_iload mw_m81 d81_15 rfl).trans ((mj_q_bipush mw_m81 d81_17 mw_k_bipush_10).trans ((mw_h_idiv mw_m81 d81_19).trans (mw_g ((mj_q_istore mw_m81 d81_20 (Nat.le_of_ble_eq_true rfl) rfl rfl).trans ((mj_q_aload_n mw_m81 d81_22 rfl (mw_neo h3)).trans ((mj_q_iload mw_m81 d81_23 rfl).trans (mw_q_callv mw_m81 rfl d81_25 mw_p4_32 mw_m59 rfl rfl (Nat.le_of_ble_eq_true rfl) (Nat.le_of_ble_eq_true rfl) rfl (mw_rcv h3) rfl rfl)))))))
theorem b81_28 {X : mj_X} {d : Nat} {s : mw_S} {k1 : Nat} {k2 : Nat} {k3 : Nat} {x4 : Int32} {x5 : Int32} {l6 : Option Value} {xs0 : Int32} (h1 : mw_cl k1 = some 0) (h2 : mw_cl k2 = some 6) (h3 : mw_cl k3 = some 3) : mj_exec X d 81 28 [some (.ref 34), some (.ref k1), some (.ref k2), some (.ref k3), some (.int x4), some (.int x5), l6] [.int xs0] (mw_U s) = if xs0 = 0 then mj_exec X d 81 49 [some (.ref 34), some (.ref k1), some (.ref k2), some (.ref k3), some (.int x4), some (.int x5), l6] [] (mw_U s) else mj_exec X d 81 31 [some (.ref 34), some (.ref k1), some (.ref k2), some (.ref k3), some (.int x4), some (.int x5), l6] [] (mw_U s) := mj_q_if_eq mw_m81 d81_28 rfl
theorem b81_31 {X : mj_X} {d : Nat} {s : mw_S} {k1 : Nat} {k2 : Nat} {k3 : Nat} {x4 : Int32} {x5 : Int32} {l6 : Option Value} (h1 : mw_cl k1 = some 0) (h2 : mw_cl k2 = some 6) (h3 : mw_cl k3 = some 3) : mj_exec X (d + 1) 81 31 [some (.ref 34), some (.ref k1), some (.ref k2), some (.ref k3), some (.int x4), some (.int x5), l6] [] (mw_U s) = (mj_call X d 38 [.ref k3, .int x5] (mw_U s)).bind (mj_bk X (d + 1) 81 37 [some (.ref 34), some (.ref k1), some (.ref k2), some (.ref k3), some (.int x4), some (.int x5), l6] []) := (mj_q_aload_n mw_m81 d81_31 rfl (mw_neo h3)).trans ((mj_q_iload mw_m81 d81_32 rfl).trans (mw_q_callv mw_m81 rfl d81_34 mw_p4_36 mw_m38 rfl rfl (Nat.le_of_ble_eq_true rfl) (Nat.le_of_ble_eq_true rfl) rfl (mw_rcv h3) rfl rfl))
theorem b81_37 {X : mj_X} {d : Nat} {s : mw_S} {k1 : Nat} {k2 : Nat} {k3 : Nat} {x4 : Int32} {x5 : Int32} {l6 : Option Value} {xs0 : Int32} (h1 : mw_cl k1 = some 0) (h2 : mw_cl k2 = some 6) (h3 : mw_cl k3 = some 3) : mj_exec X d 81 37 [some (.ref 34), some (.ref k1), some (.ref k2), some (.ref k3), some (.int x4), some (.int x5), l6] [.int xs0] (mw_U s) = if mw_nz (nI 10) = true then if xs0 = (x4 - x4 / (nI 10) * (nI 10)) then mj_exec X d 81 49 [some (.ref 34), some (.ref k1), some (.ref k2), some (.ref k3), some (.int x4), some (.int x5), l6] [] (mw_U s) else mj_exec X d 81 45 [some (.ref 34), some (.ref k1), some (.ref k2), some (.ref k3), some (.int x4), some (.int x5), l6] [] (mw_U s) else none := (mj_q_iload mw_m81 d81_37 rfl).trans ((mj_q_bipush mw_m81 d81_39 mw_k_bipush_10).trans ((mw_h_irem mw_m81 d81_41).trans (mw_g (mj_q_icmp_eq mw_m81 d81_42 rfl))))
theorem b81_45 {X : mj_X} {d : Nat} {s : mw_S} {k1 : Nat} {k2 : Nat} {k3 : Nat} {x4 : Int32} {x5 : Int32} {l6 : Option Value} (h1 : mw_cl k1 = some 0) (h2 : mw_cl k2 = some 6) (h3 : mw_cl k3 = some 3) : mj_exec X d 81 45 [some (.ref 34), some (.ref k1), some (.ref k2), some (.ref k3), some (.int x4), some (.int x5), l6] [] (mw_U s) = mj_exec X d 81 50 [some (.ref 34), some (.ref k1), some (.ref k2), some (.ref k3), some (.int x4), some (.int x5), l6] [.int (nI 1)] (mw_U s) := (mj_q_iconst mw_m81 d81_45 mw_k_iconst_1).trans (mj_q_goto mw_m81 d81_46 rfl)
theorem b81_49 {X : mj_X} {d : Nat} {s : mw_S} {k1 : Nat} {k2 : Nat} {k3 : Nat} {x4 : Int32} {x5 : Int32} {l6 : Option Value} (h1 : mw_cl k1 = some 0) (h2 : mw_cl k2 = some 6) (h3 : mw_cl k3 = some 3) : mj_exec X d 81 49 [some (.ref 34), some (.ref k1), some (.ref k2), some (.ref k3), some (.int x4), some (.int x5), l6] [] (mw_U s) = mj_exec X d 81 50 [some (.ref 34), some (.ref k1), some (.ref k2), some (.ref k3), some (.int x4), some (.int x5), l6] [.int (nI 0)] (mw_U s) := mj_q_iconst mw_m81 d81_49 mw_k_iconst_0
theorem b81_50 {X : mj_X} {d : Nat} {s : mw_S} {k1 : Nat} {k2 : Nat} {k3 : Nat} {x4 : Int32} {x5 : Int32} {l6 : Option Value} {xs0 : Int32} (h1 : mw_cl k1 = some 0) (h2 : mw_cl k2 = some 6) (h3 : mw_cl k3 = some 3) : mj_exec X d 81 50 [some (.ref 34), some (.ref k1), some (.ref k2), some (.ref k3), some (.int x4), some (.int x5), l6] [.int xs0] (mw_U s) = if xs0 = 0 then mj_exec X d 81 78 [some (.ref 34), some (.ref k1), some (.ref k2), some (.ref k3), some (.int x4), some (.int x5), some (.int xs0)] [.int x4, .ref 37] (mw_U s) else mj_exec X d 81 63 [some (.ref 34), some (.ref k1), some (.ref k2), some (.ref k3), some (.int x4), some (.int x5), some (.int xs0)] [.int x4, .ref 37] (mw_U s) := (mj_q_istore mw_m81 d81_50 (Nat.le_of_ble_eq_true rfl) rfl rfl).trans ((mj_q_aload_n mw_m81 d81_52 rfl (by decide)).trans ((mw_q_getr mw_m81 d81_53 mw_p4_18 mw_c_34 mw_f_34_1).trans ((mj_q_iload mw_m81 d81_56 rfl).trans ((mj_q_iload mw_m81 d81_58 rfl).trans (mj_q_if_eq mw_m81 d81_60 rfl)))))
theorem b81_63 {X : mj_X} {d : Nat} {s : mw_S} {k1 : Nat} {k2 : Nat} {k3 : Nat} {x4 : Int32} {x5 : Int32} {x6 : Int32} {ks0 : Nat} {ns0 : Nat} {xs1 : Int32} (h1 : mw_cl k1 = some 0) (h2 : mw_cl k2 = some 6) (h3 : mw_cl k3 = some 3) (hs0 : mw_rw ks0 = some (.boolean, ns0)) : mj_exec X (d + 1) 81 63 [some (.ref 34), some (.ref k1), some (.ref k2), some (.ref k3), some (.int x4), some (.int x5), some (.int x6)] [.int xs1, .ref ks0] (mw_U s) = (mj_call X d 79 [.ref 34, .ref k1, .ref k2, .int x4] (mw_U s)).bind (mj_bk X (d + 1) 81 71 [some (.ref 34), some (.ref k1), some (.ref k2), some (.ref k3), some (.int x4), some (.int x5), some (.int x6)] [.int xs1, .ref ks0]) := (mj_q_aload_n mw_m81 d81_63 rfl (by decide)).trans ((mj_q_aload_n mw_m81 d81_64 rfl (mw_neo h1)).trans ((mj_q_aload_n mw_m81 d81_65 rfl (mw_neo h2)).trans ((mj_q_iload mw_m81 d81_66 rfl).trans (mw_q_callv mw_m81 rfl d81_68 mw_p4_40 mw_m79 rfl rfl (Nat.le_of_ble_eq_true rfl) (Nat.le_of_ble_eq_true rfl) rfl (mw_rcv mw_c_34) rfl rfl))))
theorem b81_71 {X : mj_X} {d : Nat} {s : mw_S} {k1 : Nat} {k2 : Nat} {k3 : Nat} {x4 : Int32} {x5 : Int32} {x6 : Int32} {ks0 : Nat} {ns0 : Nat} {xs1 : Int32} {xs2 : Int32} (h1 : mw_cl k1 = some 0) (h2 : mw_cl k2 = some 6) (h3 : mw_cl k3 = some 3) (hs0 : mw_rw ks0 = some (.boolean, ns0)) : mj_exec X d 81 71 [some (.ref 34), some (.ref k1), some (.ref k2), some (.ref k3), some (.int x4), some (.int x5), some (.int x6)] [.int xs2, .int xs1, .ref ks0] (mw_U s) = if xs2 = 0 then mj_exec X d 81 78 [some (.ref 34), some (.ref k1), some (.ref k2), some (.ref k3), some (.int x4), some (.int x5), some (.int x6)] [.int xs1, .ref ks0] (mw_U s) else mj_exec X d 81 74 [some (.ref 34), some (.ref k1), some (.ref k2), some (.ref k3), some (.int x4), some (.int x5), some (.int x6)] [.int xs1, .ref ks0] (mw_U s) := mj_q_if_eq mw_m81 d81_71 rfl
theorem b81_74 {X : mj_X} {d : Nat} {s : mw_S} {k1 : Nat} {k2 : Nat} {k3 : Nat} {x4 : Int32} {x5 : Int32} {x6 : Int32} {ks0 : Nat} {ns0 : Nat} {xs1 : Int32} (h1 : mw_cl k1 = some 0) (h2 : mw_cl k2 = some 6) (h3 : mw_cl k3 = some 3) (hs0 : mw_rw ks0 = some (.boolean, ns0)) : mj_exec X d 81 74 [some (.ref 34), some (.ref k1), some (.ref k2), some (.ref k3), some (.int x4), some (.int x5), some (.int x6)] [.int xs1, .ref ks0] (mw_U s) = mj_exec X d 81 79 [some (.ref 34), some (.ref k1), some (.ref k2), some (.ref k3), some (.int x4), some (.int x5), some (.int x6)] [.int (nI 1), .int xs1, .ref ks0] (mw_U s) := (mj_q_iconst mw_m81 d81_74 mw_k_iconst_1).trans (mj_q_goto mw_m81 d81_75 rfl)
theorem b81_78 {X : mj_X} {d : Nat} {s : mw_S} {k1 : Nat} {k2 : Nat} {k3 : Nat} {x4 : Int32} {x5 : Int32} {x6 : Int32} {ks0 : Nat} {ns0 : Nat} {xs1 : Int32} (h1 : mw_cl k1 = some 0) (h2 : mw_cl k2 = some 6) (h3 : mw_cl k3 = some 3) (hs0 : mw_rw ks0 = some (.boolean, ns0)) : mj_exec X d 81 78 [some (.ref 34), some (.ref k1), some (.ref k2), some (.ref k3), some (.int x4), some (.int x5), some (.int x6)] [.int xs1, .ref ks0] (mw_U s) = mj_exec X d 81 79 [some (.ref 34), some (.ref k1), some (.ref k2), some (.ref k3), some (.int x4), some (.int x5), some (.int x6)] [.int (nI 0), .int xs1, .ref ks0] (mw_U s) := mj_q_iconst mw_m81 d81_78 mw_k_iconst_0
theorem b81_79 {X : mj_X} {d : Nat} {s : mw_S} {k1 : Nat} {k2 : Nat} {k3 : Nat} {x4 : Int32} {x5 : Int32} {x6 : Int32} {ks0 : Nat} {ns0 : Nat} {xs1 : Int32} {xs2 : Int32} (h1 : mw_cl k1 = some 0) (h2 : mw_cl k2 = some 6) (h3 : mw_cl k3 = some 3) (hs0 : mw_rw ks0 = some (.boolean, ns0)) : mj_exec X d 81 79 [some (.ref 34), some (.ref k1), some (.ref k2), some (.ref k3), some (.int x4), some (.int x5), some (.int x6)] [.int xs2, .int xs1, .ref ks0] (mw_U s) = if mw_in ns0 xs1 = true then mj_exec X d 81 8 [some (.ref 34), some (.ref k1), some (.ref k2), some (.ref k3), some (.int (x4 + (nI 1))), some (.int x5), some (.int x6)] [] (mw_U (mw_p s ks0 (xs1).toNatClampNeg (vp_nar .boolean xs2))) else none := (mw_h_zast mw_m81 d81_79 hs0).trans (mw_g ((mj_q_iinc mw_m81 d81_80 rfl (Nat.le_of_ble_eq_true rfl) rfl mw_k_iconst_1 rfl).trans (mj_q_goto mw_m81 d81_83 rfl)))
theorem b81_86 {X : mj_X} {d : Nat} {s : mw_S} {k1 : Nat} {k2 : Nat} {k3 : Nat} {x4 : Int32} {l5 : Option Value} {l6 : Option Value} (h1 : mw_cl k1 = some 0) (h2 : mw_cl k2 = some 6) (h3 : mw_cl k3 = some 3) : mj_exec X d 81 86 [some (.ref 34), some (.ref k1), some (.ref k2), some (.ref k3), some (.int x4), l5, l6] [] (mw_U s) = some (.inl none, mw_U s) := mj_q_vret mw_m81 d81_86 rfl
/-- WivesQuarrels$Guesses.howMany -/
theorem d82_0 : decode prog_7_method_5_code 0 = .ok (.iconst 0, 1) := by decide +kernel
theorem d82_1 : decode prog_7_method_5_code 1 = .ok (.istore_n 1, 1) := by decide +kernel
theorem d82_2 : decode prog_7_method_5_code 2 = .ok (.iconst 0, 1) := by decide +kernel
theorem d82_3 : decode prog_7_method_5_code 3 = .ok (.istore_n 2, 1) := by decide +kernel
theorem d82_4 : decode prog_7_method_5_code 4 = .ok (.iload_n 2, 1) := by decide +kernel
theorem d82_5 : decode prog_7_method_5_code 5 = .ok (.bipush 80, 2) := by decide +kernel
theorem d82_7 : decode prog_7_method_5_code 7 = .ok (.if_icmp .ge 21, 3) := by decide +kernel
theorem d82_10 : decode prog_7_method_5_code 10 = .ok (.aload_n 0, 1) := by decide +kernel
theorem d82_11 : decode prog_7_method_5_code 11 = .ok (.getfield 18, 3) := by decide +kernel
theorem d82_14 : decode prog_7_method_5_code 14 = .ok (.iload_n 2, 1) := by decide +kernel
theorem d82_15 : decode prog_7_method_5_code 15 = .ok (.baload, 1) := by decide +kernel
theorem d82_16 : decode prog_7_method_5_code 16 = .ok (.ifCond .eq 6, 3) := by decide +kernel
theorem d82_19 : decode prog_7_method_5_code 19 = .ok (.iinc 1 1, 3) := by decide +kernel
theorem d82_22 : decode prog_7_method_5_code 22 = .ok (.iinc 2 1, 3) := by decide +kernel
theorem d82_25 : decode prog_7_method_5_code 25 = .ok (.goto (-21), 3) := by decide +kernel
theorem d82_28 : decode prog_7_method_5_code 28 = .ok (.iload_n 1, 1) := by decide +kernel
theorem d82_29 : decode prog_7_method_5_code 29 = .ok (.ireturn, 1) := by decide +kernel
theorem b82 {X : mj_X} {d : Nat} {w : mj_W} {x0 : Nat} : mj_call X d 82 [.ref x0] w = mj_exec X d 82 0 [some (.ref x0), none, none] [] w := mw_ent mw_m82 (Nat.le_of_ble_eq_true rfl) rfl
theorem b82_0 {X : mj_X} {d : Nat} {s : mw_S} {l1 : Option Value} {l2 : Option Value}  : mj_exec X d 82 0 [some (.ref 34), l1, l2] [] (mw_U s) = mj_exec X d 82 4 [some (.ref 34), some (.int (nI 0)), some (.int (nI 0))] [] (mw_U s) := (mj_q_iconst mw_m82 d82_0 mw_k_iconst_0).trans ((mj_q_istore_n mw_m82 d82_1 (Nat.le_of_ble_eq_true rfl) rfl rfl).trans ((mj_q_iconst mw_m82 d82_2 mw_k_iconst_0).trans (mj_q_istore_n mw_m82 d82_3 (Nat.le_of_ble_eq_true rfl) rfl rfl)))
theorem b82_4 {X : mj_X} {d : Nat} {s : mw_S} {x1 : Int32} {x2 : Int32}  : mj_exec X d 82 4 [some (.ref 34), some (.int x1), some (.int x2)] [] (mw_U s) = if (nI 80) ≤ x2 then mj_exec X d 82 28 [some (.ref 34), some (.int x1), some (.int x2)] [] (mw_U s) else mj_exec X d 82 10 [some (.ref 34), some (.int x1), some (.int x2)] [] (mw_U s) := (mj_q_iload_n mw_m82 d82_4 rfl).trans ((mj_q_bipush mw_m82 d82_5 mw_k_bipush_80).trans (mj_q_icmp_ge mw_m82 d82_7 rfl))
theorem b82_10 {X : mj_X} {d : Nat} {s : mw_S} {x1 : Int32} {x2 : Int32}  : mj_exec X d 82 10 [some (.ref 34), some (.int x1), some (.int x2)] [] (mw_U s) = if mw_in 80 x2 = true then if (s.1 37 (x2).toNatClampNeg) = 0 then mj_exec X d 82 22 [some (.ref 34), some (.int x1), some (.int x2)] [] (mw_U s) else mj_exec X d 82 19 [some (.ref 34), some (.int x1), some (.int x2)] [] (mw_U s) else none := (mj_q_aload_n mw_m82 d82_10 rfl (by decide)).trans ((mw_q_getr mw_m82 d82_11 mw_p4_18 mw_c_34 mw_f_34_1).trans ((mj_q_iload_n mw_m82 d82_14 rfl).trans ((mw_h_zald mw_m82 d82_15 mw_r_37).trans (mw_g (mj_q_if_eq mw_m82 d82_16 rfl)))))
theorem b82_19 {X : mj_X} {d : Nat} {s : mw_S} {x1 : Int32} {x2 : Int32}  : mj_exec X d 82 19 [some (.ref 34), some (.int x1), some (.int x2)] [] (mw_U s) = mj_exec X d 82 22 [some (.ref 34), some (.int (x1 + (nI 1))), some (.int x2)] [] (mw_U s) := mj_q_iinc mw_m82 d82_19 rfl (Nat.le_of_ble_eq_true rfl) rfl mw_k_iconst_1 rfl
theorem b82_22 {X : mj_X} {d : Nat} {s : mw_S} {x1 : Int32} {x2 : Int32}  : mj_exec X d 82 22 [some (.ref 34), some (.int x1), some (.int x2)] [] (mw_U s) = mj_exec X d 82 4 [some (.ref 34), some (.int x1), some (.int (x2 + (nI 1)))] [] (mw_U s) := (mj_q_iinc mw_m82 d82_22 rfl (Nat.le_of_ble_eq_true rfl) rfl mw_k_iconst_1 rfl).trans (mj_q_goto mw_m82 d82_25 rfl)
theorem b82_28 {X : mj_X} {d : Nat} {s : mw_S} {x1 : Int32} {x2 : Int32}  : mj_exec X d 82 28 [some (.ref 34), some (.int x1), some (.int x2)] [] (mw_U s) = some (.inl (some (.int x1)), mw_U s) := (mj_q_iload_n mw_m82 d82_28 rfl).trans (mj_q_iret mw_m82 d82_29 rfl)
/-- WivesQuarrels$Guesses.first -/
theorem d83_0 : decode prog_7_method_6_code 0 = .ok (.iconst 0, 1) := by decide +kernel
theorem d83_1 : decode prog_7_method_6_code 1 = .ok (.istore_n 1, 1) := by decide +kernel
theorem d83_2 : decode prog_7_method_6_code 2 = .ok (.iload_n 1, 1) := by decide +kernel
theorem d83_3 : decode prog_7_method_6_code 3 = .ok (.bipush 80, 2) := by decide +kernel
theorem d83_5 : decode prog_7_method_6_code 5 = .ok (.if_icmp .ge 20, 3) := by decide +kernel
theorem d83_8 : decode prog_7_method_6_code 8 = .ok (.aload_n 0, 1) := by decide +kernel
theorem d83_9 : decode prog_7_method_6_code 9 = .ok (.getfield 18, 3) := by decide +kernel
theorem d83_12 : decode prog_7_method_6_code 12 = .ok (.iload_n 1, 1) := by decide +kernel
theorem d83_13 : decode prog_7_method_6_code 13 = .ok (.baload, 1) := by decide +kernel
theorem d83_14 : decode prog_7_method_6_code 14 = .ok (.ifCond .eq 5, 3) := by decide +kernel
theorem d83_17 : decode prog_7_method_6_code 17 = .ok (.iload_n 1, 1) := by decide +kernel
theorem d83_18 : decode prog_7_method_6_code 18 = .ok (.ireturn, 1) := by decide +kernel
theorem d83_19 : decode prog_7_method_6_code 19 = .ok (.iinc 1 1, 3) := by decide +kernel
theorem d83_22 : decode prog_7_method_6_code 22 = .ok (.goto (-20), 3) := by decide +kernel
theorem d83_25 : decode prog_7_method_6_code 25 = .ok (.iconst (-1), 1) := by decide +kernel
theorem d83_26 : decode prog_7_method_6_code 26 = .ok (.ireturn, 1) := by decide +kernel
theorem b83 {X : mj_X} {d : Nat} {w : mj_W} {x0 : Nat} : mj_call X d 83 [.ref x0] w = mj_exec X d 83 0 [some (.ref x0), none] [] w := mw_ent mw_m83 (Nat.le_of_ble_eq_true rfl) rfl
theorem b83_0 {X : mj_X} {d : Nat} {s : mw_S} {l1 : Option Value}  : mj_exec X d 83 0 [some (.ref 34), l1] [] (mw_U s) = mj_exec X d 83 2 [some (.ref 34), some (.int (nI 0))] [] (mw_U s) := (mj_q_iconst mw_m83 d83_0 mw_k_iconst_0).trans (mj_q_istore_n mw_m83 d83_1 (Nat.le_of_ble_eq_true rfl) rfl rfl)
theorem b83_2 {X : mj_X} {d : Nat} {s : mw_S} {x1 : Int32}  : mj_exec X d 83 2 [some (.ref 34), some (.int x1)] [] (mw_U s) = if (nI 80) ≤ x1 then mj_exec X d 83 25 [some (.ref 34), some (.int x1)] [] (mw_U s) else mj_exec X d 83 8 [some (.ref 34), some (.int x1)] [] (mw_U s) := (mj_q_iload_n mw_m83 d83_2 rfl).trans ((mj_q_bipush mw_m83 d83_3 mw_k_bipush_80).trans (mj_q_icmp_ge mw_m83 d83_5 rfl))
theorem b83_8 {X : mj_X} {d : Nat} {s : mw_S} {x1 : Int32}  : mj_exec X d 83 8 [some (.ref 34), some (.int x1)] [] (mw_U s) = if mw_in 80 x1 = true then if (s.1 37 (x1).toNatClampNeg) = 0 then mj_exec X d 83 19 [some (.ref 34), some (.int x1)] [] (mw_U s) else mj_exec X d 83 17 [some (.ref 34), some (.int x1)] [] (mw_U s) else none := (mj_q_aload_n mw_m83 d83_8 rfl (by decide)).trans ((mw_q_getr mw_m83 d83_9 mw_p4_18 mw_c_34 mw_f_34_1).trans ((mj_q_iload_n mw_m83 d83_12 rfl).trans ((mw_h_zald mw_m83 d83_13 mw_r_37).trans (mw_g (mj_q_if_eq mw_m83 d83_14 rfl)))))
theorem b83_17 {X : mj_X} {d : Nat} {s : mw_S} {x1 : Int32}  : mj_exec X d 83 17 [some (.ref 34), some (.int x1)] [] (mw_U s) = some (.inl (some (.int x1)), mw_U s) := (mj_q_iload_n mw_m83 d83_17 rfl).trans (mj_q_iret mw_m83 d83_18 rfl)
theorem b83_19 {X : mj_X} {d : Nat} {s : mw_S} {x1 : Int32}  : mj_exec X d 83 19 [some (.ref 34), some (.int x1)] [] (mw_U s) = mj_exec X d 83 2 [some (.ref 34), some (.int (x1 + (nI 1)))] [] (mw_U s) := (mj_q_iinc mw_m83 d83_19 rfl (Nat.le_of_ble_eq_true rfl) rfl mw_k_iconst_1 rfl).trans (mj_q_goto mw_m83 d83_22 rfl)
theorem b83_25 {X : mj_X} {d : Nat} {s : mw_S} {x1 : Int32}  : mj_exec X d 83 25 [some (.ref 34), some (.int x1)] [] (mw_U s) = some (.inl (some (.int (-1))), mw_U s) := (mj_q_iconst mw_m83 d83_25 mw_k_iconst_m1).trans (mj_q_iret mw_m83 d83_26 rfl)
/-- WivesQuarrels$Guesses.collectHeats -/
theorem d84_0 : decode prog_7_method_7_code 0 = .ok (.aload_n 0, 1) := by decide +kernel
theorem d84_1 : decode prog_7_method_7_code 1 = .ok (.getfield 22, 3) := by decide +kernel
theorem d84_4 : decode prog_7_method_7_code 4 = .ok (.lconst 0, 1) := by decide +kernel
theorem d84_5 : decode prog_7_method_7_code 5 = .ok (.invokestatic 69, 3) := by decide +kernel
theorem d84_8 : decode prog_7_method_7_code 8 = .ok (.iconst 0, 1) := by decide +kernel
theorem d84_9 : decode prog_7_method_7_code 9 = .ok (.istore_n 3, 1) := by decide +kernel
theorem d84_10 : decode prog_7_method_7_code 10 = .ok (.iload_n 3, 1) := by decide +kernel
theorem d84_11 : decode prog_7_method_7_code 11 = .ok (.bipush 80, 2) := by decide +kernel
theorem d84_13 : decode prog_7_method_7_code 13 = .ok (.if_icmp .ge 37, 3) := by decide +kernel
theorem d84_16 : decode prog_7_method_7_code 16 = .ok (.aload_n 0, 1) := by decide +kernel
theorem d84_17 : decode prog_7_method_7_code 17 = .ok (.getfield 18, 3) := by decide +kernel
theorem d84_20 : decode prog_7_method_7_code 20 = .ok (.iload_n 3, 1) := by decide +kernel
theorem d84_21 : decode prog_7_method_7_code 21 = .ok (.baload, 1) := by decide +kernel
theorem d84_22 : decode prog_7_method_7_code 22 = .ok (.ifCond .eq 22, 3) := by decide +kernel
theorem d84_25 : decode prog_7_method_7_code 25 = .ok (.aload_n 0, 1) := by decide +kernel
theorem d84_26 : decode prog_7_method_7_code 26 = .ok (.aload_n 1, 1) := by decide +kernel
theorem d84_27 : decode prog_7_method_7_code 27 = .ok (.iload_n 3, 1) := by decide +kernel
theorem d84_28 : decode prog_7_method_7_code 28 = .ok (.invokevirtual 44, 3) := by decide +kernel
theorem d84_31 : decode prog_7_method_7_code 31 = .ok (.aload_n 2, 1) := by decide +kernel
theorem d84_32 : decode prog_7_method_7_code 32 = .ok (.aload_n 0, 1) := by decide +kernel
theorem d84_33 : decode prog_7_method_7_code 33 = .ok (.getfield 12, 3) := by decide +kernel
theorem d84_36 : decode prog_7_method_7_code 36 = .ok (.iconst 5, 1) := by decide +kernel
theorem d84_37 : decode prog_7_method_7_code 37 = .ok (.invokevirtual 52, 3) := by decide +kernel
theorem d84_40 : decode prog_7_method_7_code 40 = .ok (.aload_n 0, 1) := by decide +kernel
theorem d84_41 : decode prog_7_method_7_code 41 = .ok (.invokevirtual 75, 3) := by decide +kernel
theorem d84_44 : decode prog_7_method_7_code 44 = .ok (.iinc 3 1, 3) := by decide +kernel
theorem d84_47 : decode prog_7_method_7_code 47 = .ok (.goto (-37), 3) := by decide +kernel
theorem d84_50 : decode prog_7_method_7_code 50 = .ok (.return_, 1) := by decide +kernel
theorem b84 {X : mj_X} {d : Nat} {w : mj_W} {x0 : Nat} {x1 : Nat} {x2 : Nat} : mj_call X d 84 [.ref x0, .ref x1, .ref x2] w = mj_exec X d 84 0 [some (.ref x0), some (.ref x1), some (.ref x2), none] [] w := mw_ent mw_m84 (Nat.le_of_ble_eq_true rfl) rfl
theorem b84_0 {X : mj_X} {d : Nat} {s : mw_S} {k1 : Nat} {k2 : Nat} {l3 : Option Value} (h1 : mw_cl k1 = some 3) (h2 : mw_cl k2 = some 6) : mj_exec X (d + 1) 84 0 [some (.ref 34), some (.ref k1), some (.ref k2), l3] [] (mw_U s) = (mj_call X d 351 [.ref 38, .long (Int64.ofNat 0)] (mw_U s)).bind (mj_bk X (d + 1) 84 8 [some (.ref 34), some (.ref k1), some (.ref k2), l3] []) := (mj_q_aload_n mw_m84 d84_0 rfl (by decide)).trans ((mw_q_getr mw_m84 d84_1 mw_p4_22 mw_c_34 mw_f_34_2).trans ((mj_q_lconst mw_m84 d84_4 rfl).trans (mw_q_calls mw_m84 rfl d84_5 mw_p4_69 mw_m351 rfl (Nat.le_of_ble_eq_true rfl) (Nat.le_of_ble_eq_true rfl) rfl rfl)))
theorem b84_8 {X : mj_X} {d : Nat} {s : mw_S} {k1 : Nat} {k2 : Nat} {l3 : Option Value} (h1 : mw_cl k1 = some 3) (h2 : mw_cl k2 = some 6) : mj_exec X d 84 8 [some (.ref 34), some (.ref k1), some (.ref k2), l3] [] (mw_U s) = mj_exec X d 84 10 [some (.ref 34), some (.ref k1), some (.ref k2), some (.int (nI 0))] [] (mw_U s) := (mj_q_iconst mw_m84 d84_8 mw_k_iconst_0).trans (mj_q_istore_n mw_m84 d84_9 (Nat.le_of_ble_eq_true rfl) rfl rfl)
theorem b84_10 {X : mj_X} {d : Nat} {s : mw_S} {k1 : Nat} {k2 : Nat} {x3 : Int32} (h1 : mw_cl k1 = some 3) (h2 : mw_cl k2 = some 6) : mj_exec X d 84 10 [some (.ref 34), some (.ref k1), some (.ref k2), some (.int x3)] [] (mw_U s) = if (nI 80) ≤ x3 then mj_exec X d 84 50 [some (.ref 34), some (.ref k1), some (.ref k2), some (.int x3)] [] (mw_U s) else mj_exec X d 84 16 [some (.ref 34), some (.ref k1), some (.ref k2), some (.int x3)] [] (mw_U s) := (mj_q_iload_n mw_m84 d84_10 rfl).trans ((mj_q_bipush mw_m84 d84_11 mw_k_bipush_80).trans (mj_q_icmp_ge mw_m84 d84_13 rfl))
theorem b84_16 {X : mj_X} {d : Nat} {s : mw_S} {k1 : Nat} {k2 : Nat} {x3 : Int32} (h1 : mw_cl k1 = some 3) (h2 : mw_cl k2 = some 6) : mj_exec X d 84 16 [some (.ref 34), some (.ref k1), some (.ref k2), some (.int x3)] [] (mw_U s) = if mw_in 80 x3 = true then if (s.1 37 (x3).toNatClampNeg) = 0 then mj_exec X d 84 44 [some (.ref 34), some (.ref k1), some (.ref k2), some (.int x3)] [] (mw_U s) else mj_exec X d 84 25 [some (.ref 34), some (.ref k1), some (.ref k2), some (.int x3)] [] (mw_U s) else none := (mj_q_aload_n mw_m84 d84_16 rfl (by decide)).trans ((mw_q_getr mw_m84 d84_17 mw_p4_18 mw_c_34 mw_f_34_1).trans ((mj_q_iload_n mw_m84 d84_20 rfl).trans ((mw_h_zald mw_m84 d84_21 mw_r_37).trans (mw_g (mj_q_if_eq mw_m84 d84_22 rfl)))))
theorem b84_25 {X : mj_X} {d : Nat} {s : mw_S} {k1 : Nat} {k2 : Nat} {x3 : Int32} (h1 : mw_cl k1 = some 3) (h2 : mw_cl k2 = some 6) : mj_exec X (d + 1) 84 25 [some (.ref 34), some (.ref k1), some (.ref k2), some (.int x3)] [] (mw_U s) = (mj_call X d 80 [.ref 34, .ref k1, .int x3] (mw_U s)).bind (mj_bk X (d + 1) 84 31 [some (.ref 34), some (.ref k1), some (.ref k2), some (.int x3)] []) := (mj_q_aload_n mw_m84 d84_25 rfl (by decide)).trans ((mj_q_aload_n mw_m84 d84_26 rfl (mw_neo h1)).trans ((mj_q_iload_n mw_m84 d84_27 rfl).trans (mw_q_callv mw_m84 rfl d84_28 mw_p4_44 mw_m80 rfl rfl (Nat.le_of_ble_eq_true rfl) (Nat.le_of_ble_eq_true rfl) rfl (mw_rcv mw_c_34) rfl rfl)))
theorem b84_31 {X : mj_X} {d : Nat} {s : mw_S} {k1 : Nat} {k2 : Nat} {x3 : Int32} (h1 : mw_cl k1 = some 3) (h2 : mw_cl k2 = some 6) : mj_exec X (d + 1) 84 31 [some (.ref 34), some (.ref k1), some (.ref k2), some (.int x3)] [] (mw_U s) = (mj_call X d 112 [.ref k2, .ref 35, .int (nI 5)] (mw_U s)).bind (mj_bk X (d + 1) 84 40 [some (.ref 34), some (.ref k1), some (.ref k2), some (.int x3)] []) := (mj_q_aload_n mw_m84 d84_31 rfl (mw_neo h2)).trans ((mj_q_aload_n mw_m84 d84_32 rfl (by decide)).trans ((mw_q_getr mw_m84 d84_33 mw_p4_12 mw_c_34 mw_f_34_0).trans ((mj_q_iconst mw_m84 d84_36 mw_k_iconst_5).trans (mw_q_callv mw_m84 rfl d84_37 mw_p4_52 mw_m112 rfl rfl (Nat.le_of_ble_eq_true rfl) (Nat.le_of_ble_eq_true rfl) rfl (mw_rcv h2) rfl rfl))))
theorem b84_40 {X : mj_X} {d : Nat} {s : mw_S} {k1 : Nat} {k2 : Nat} {x3 : Int32} (h1 : mw_cl k1 = some 3) (h2 : mw_cl k2 = some 6) : mj_exec X (d + 1) 84 40 [some (.ref 34), some (.ref k1), some (.ref k2), some (.int x3)] [] (mw_U s) = (mj_call X d 85 [.ref 34] (mw_U s)).bind (mj_bk X (d + 1) 84 44 [some (.ref 34), some (.ref k1), some (.ref k2), some (.int x3)] []) := (mj_q_aload_n mw_m84 d84_40 rfl (by decide)).trans (mw_q_callv mw_m84 rfl d84_41 mw_p4_75 mw_m85 rfl rfl (Nat.le_of_ble_eq_true rfl) (Nat.le_of_ble_eq_true rfl) rfl (mw_rcv mw_c_34) rfl rfl)
theorem b84_44 {X : mj_X} {d : Nat} {s : mw_S} {k1 : Nat} {k2 : Nat} {x3 : Int32} (h1 : mw_cl k1 = some 3) (h2 : mw_cl k2 = some 6) : mj_exec X d 84 44 [some (.ref 34), some (.ref k1), some (.ref k2), some (.int x3)] [] (mw_U s) = mj_exec X d 84 10 [some (.ref 34), some (.ref k1), some (.ref k2), some (.int (x3 + (nI 1)))] [] (mw_U s) := (mj_q_iinc mw_m84 d84_44 rfl (Nat.le_of_ble_eq_true rfl) rfl mw_k_iconst_1 rfl).trans (mj_q_goto mw_m84 d84_47 rfl)
theorem b84_50 {X : mj_X} {d : Nat} {s : mw_S} {k1 : Nat} {k2 : Nat} {x3 : Int32} (h1 : mw_cl k1 = some 3) (h2 : mw_cl k2 = some 6) : mj_exec X d 84 50 [some (.ref 34), some (.ref k1), some (.ref k2), some (.int x3)] [] (mw_U s) = some (.inl none, mw_U s) := mj_q_vret mw_m84 d84_50 rfl
/-- WivesQuarrels$Guesses.noteHeats -/
theorem d85_0 : decode prog_7_method_8_code 0 = .ok (.iconst 0, 1) := by decide +kernel
theorem d85_1 : decode prog_7_method_8_code 1 = .ok (.istore_n 1, 1) := by decide +kernel
theorem d85_2 : decode prog_7_method_8_code 2 = .ok (.iload_n 1, 1) := by decide +kernel
theorem d85_3 : decode prog_7_method_8_code 3 = .ok (.bipush 28, 2) := by decide +kernel
theorem d85_5 : decode prog_7_method_8_code 5 = .ok (.if_icmp .ge 40, 3) := by decide +kernel
theorem d85_8 : decode prog_7_method_8_code 8 = .ok (.aload_n 0, 1) := by decide +kernel
theorem d85_9 : decode prog_7_method_8_code 9 = .ok (.getfield 12, 3) := by decide +kernel
theorem d85_12 : decode prog_7_method_8_code 12 = .ok (.iload_n 1, 1) := by decide +kernel
theorem d85_13 : decode prog_7_method_8_code 13 = .ok (.invokevirtual 78, 3) := by decide +kernel
theorem d85_16 : decode prog_7_method_8_code 16 = .ok (.istore_n 2, 1) := by decide +kernel
theorem d85_17 : decode prog_7_method_8_code 17 = .ok (.aload_n 0, 1) := by decide +kernel
theorem d85_18 : decode prog_7_method_8_code 18 = .ok (.getfield 22, 3) := by decide +kernel
theorem d85_21 : decode prog_7_method_8_code 21 = .ok (.iconst 2, 1) := by decide +kernel
theorem d85_22 : decode prog_7_method_8_code 22 = .ok (.iload_n 1, 1) := by decide +kernel
theorem d85_23 : decode prog_7_method_8_code 23 = .ok (.imul, 1) := by decide +kernel
theorem d85_24 : decode prog_7_method_8_code 24 = .ok (.iload_n 2, 1) := by decide +kernel
theorem d85_25 : decode prog_7_method_8_code 25 = .ok (.bipush 6, 2) := by decide +kernel
theorem d85_27 : decode prog_7_method_8_code 27 = .ok (.ishr, 1) := by decide +kernel
theorem d85_28 : decode prog_7_method_8_code 28 = .ok (.iadd, 1) := by decide +kernel
theorem d85_29 : decode prog_7_method_8_code 29 = .ok (.dup2, 1) := by decide +kernel
theorem d85_30 : decode prog_7_method_8_code 30 = .ok (.laload, 1) := by decide +kernel
theorem d85_31 : decode prog_7_method_8_code 31 = .ok (.lconst 1, 1) := by decide +kernel
theorem d85_32 : decode prog_7_method_8_code 32 = .ok (.iload_n 2, 1) := by decide +kernel
theorem d85_33 : decode prog_7_method_8_code 33 = .ok (.bipush 63, 2) := by decide +kernel
theorem d85_35 : decode prog_7_method_8_code 35 = .ok (.iand, 1) := by decide +kernel
theorem d85_36 : decode prog_7_method_8_code 36 = .ok (.lshl, 1) := by decide +kernel
theorem d85_37 : decode prog_7_method_8_code 37 = .ok (.lor, 1) := by decide +kernel
theorem d85_38 : decode prog_7_method_8_code 38 = .ok (.lastore, 1) := by decide +kernel
theorem d85_39 : decode prog_7_method_8_code 39 = .ok (.iinc 1 1, 3) := by decide +kernel
theorem d85_42 : decode prog_7_method_8_code 42 = .ok (.goto (-40), 3) := by decide +kernel
theorem d85_45 : decode prog_7_method_8_code 45 = .ok (.return_, 1) := by decide +kernel
theorem b85 {X : mj_X} {d : Nat} {w : mj_W} {x0 : Nat} : mj_call X d 85 [.ref x0] w = mj_exec X d 85 0 [some (.ref x0), none, none] [] w := mw_ent mw_m85 (Nat.le_of_ble_eq_true rfl) rfl
theorem b85_0 {X : mj_X} {d : Nat} {s : mw_S} {l1 : Option Value} {l2 : Option Value}  : mj_exec X d 85 0 [some (.ref 34), l1, l2] [] (mw_U s) = mj_exec X d 85 2 [some (.ref 34), some (.int (nI 0)), l2] [] (mw_U s) := (mj_q_iconst mw_m85 d85_0 mw_k_iconst_0).trans (mj_q_istore_n mw_m85 d85_1 (Nat.le_of_ble_eq_true rfl) rfl rfl)
theorem b85_2 {X : mj_X} {d : Nat} {s : mw_S} {x1 : Int32} {l2 : Option Value}  : mj_exec X d 85 2 [some (.ref 34), some (.int x1), l2] [] (mw_U s) = if (nI 28) ≤ x1 then mj_exec X d 85 45 [some (.ref 34), some (.int x1), l2] [] (mw_U s) else mj_exec X d 85 8 [some (.ref 34), some (.int x1), l2] [] (mw_U s) := (mj_q_iload_n mw_m85 d85_2 rfl).trans ((mj_q_bipush mw_m85 d85_3 mw_k_bipush_28).trans (mj_q_icmp_ge mw_m85 d85_5 rfl))
theorem b85_8 {X : mj_X} {d : Nat} {s : mw_S} {x1 : Int32} {l2 : Option Value}  : mj_exec X (d + 1) 85 8 [some (.ref 34), some (.int x1), l2] [] (mw_U s) = (mj_call X d 37 [.ref 35, .int x1] (mw_U s)).bind (mj_bk X (d + 1) 85 16 [some (.ref 34), some (.int x1), l2] []) := (mj_q_aload_n mw_m85 d85_8 rfl (by decide)).trans ((mw_q_getr mw_m85 d85_9 mw_p4_12 mw_c_34 mw_f_34_0).trans ((mj_q_iload_n mw_m85 d85_12 rfl).trans (mw_q_callv mw_m85 rfl d85_13 mw_p4_78 mw_m37 rfl rfl (Nat.le_of_ble_eq_true rfl) (Nat.le_of_ble_eq_true rfl) rfl (mw_rcv mw_c_35) rfl rfl)))
theorem b85_16 {X : mj_X} {d : Nat} {s : mw_S} {x1 : Int32} {l2 : Option Value} {xs0 : Int32}  : mj_exec X d 85 16 [some (.ref 34), some (.int x1), l2] [.int xs0] (mw_U s) = if mw_in 56 (((nI 2) * x1) + (xs0 >>> ((nI 6) &&& 31))) = true then if mw_in 56 (((nI 2) * x1) + (xs0 >>> ((nI 6) &&& 31))) = true then mj_exec X d 85 2 [some (.ref 34), some (.int (x1 + (nI 1))), some (.int xs0)] [] (mw_U (mw_pl s 38 ((((nI 2) * x1) + (xs0 >>> ((nI 6) &&& 31)))).toNatClampNeg ((s.2.1 38 ((((nI 2) * x1) + (xs0 >>> ((nI 6) &&& 31)))).toNatClampNeg) ||| ((Int64.ofNat 1) <<< (Int32.toInt64 (xs0 &&& (nI 63)) &&& 63))))) else none else none := (mj_q_istore_n mw_m85 d85_16 (Nat.le_of_ble_eq_true rfl) rfl rfl).trans ((mj_q_aload_n mw_m85 d85_17 rfl (by decide)).trans ((mw_q_getr mw_m85 d85_18 mw_p4_22 mw_c_34 mw_f_34_2).trans ((mj_q_iconst mw_m85 d85_21 mw_k_iconst_2).trans ((mj_q_iload_n mw_m85 d85_22 rfl).trans ((mj_q_imul mw_m85 d85_23).trans ((mj_q_iload_n mw_m85 d85_24 rfl).trans ((mj_q_bipush mw_m85 d85_25 mw_k_bipush_6).trans ((mj_q_ishr mw_m85 d85_27).trans ((mj_q_iadd mw_m85 d85_28).trans ((mj_q_dup2 mw_m85 d85_29 rfl rfl).trans ((mw_h_lald mw_m85 d85_30 mw_l_38).trans (mw_g ((mj_q_lconst mw_m85 d85_31 rfl).trans ((mj_q_iload_n mw_m85 d85_32 rfl).trans ((mj_q_bipush mw_m85 d85_33 mw_k_bipush_63).trans ((mj_q_iand mw_m85 d85_35).trans ((mj_q_lshl mw_m85 d85_36).trans ((mj_q_lor mw_m85 d85_37).trans ((mw_h_last mw_m85 d85_38 mw_l_38).trans (mw_g ((mj_q_iinc mw_m85 d85_39 rfl (Nat.le_of_ble_eq_true rfl) rfl mw_k_iconst_1 rfl).trans (mj_q_goto mw_m85 d85_42 rfl))))))))))))))))))))))
theorem b85_45 {X : mj_X} {d : Nat} {s : mw_S} {x1 : Int32} {l2 : Option Value}  : mj_exec X d 85 45 [some (.ref 34), some (.int x1), l2] [] (mw_U s) = some (.inl none, mw_U s) := mj_q_vret mw_m85 d85_45 rfl
/-- WivesQuarrels$Guesses.mostUnlike -/
theorem d86_0 : decode prog_7_method_10_code 0 = .ok (.iconst (-1), 1) := by decide +kernel
theorem d86_1 : decode prog_7_method_10_code 1 = .ok (.istore_n 2, 1) := by decide +kernel
theorem d86_2 : decode prog_7_method_10_code 2 = .ok (.iconst 0, 1) := by decide +kernel
theorem d86_3 : decode prog_7_method_10_code 3 = .ok (.istore_n 3, 1) := by decide +kernel
theorem d86_4 : decode prog_7_method_10_code 4 = .ok (.iload_n 3, 1) := by decide +kernel
theorem d86_5 : decode prog_7_method_10_code 5 = .ok (.bipush 28, 2) := by decide +kernel
theorem d86_7 : decode prog_7_method_10_code 7 = .ok (.if_icmp .ge 32, 3) := by decide +kernel
theorem d86_10 : decode prog_7_method_10_code 10 = .ok (.aload_n 1, 1) := by decide +kernel
theorem d86_11 : decode prog_7_method_10_code 11 = .ok (.iload_n 3, 1) := by decide +kernel
theorem d86_12 : decode prog_7_method_10_code 12 = .ok (.invokevirtual 87, 3) := by decide +kernel
theorem d86_15 : decode prog_7_method_10_code 15 = .ok (.ifCond .eq 18, 3) := by decide +kernel
theorem d86_18 : decode prog_7_method_10_code 18 = .ok (.aload_n 0, 1) := by decide +kernel
theorem d86_19 : decode prog_7_method_10_code 19 = .ok (.iload_n 3, 1) := by decide +kernel
theorem d86_20 : decode prog_7_method_10_code 20 = .ok (.invokevirtual 90, 3) := by decide +kernel
theorem d86_23 : decode prog_7_method_10_code 23 = .ok (.aload_n 0, 1) := by decide +kernel
theorem d86_24 : decode prog_7_method_10_code 24 = .ok (.iload_n 2, 1) := by decide +kernel
theorem d86_25 : decode prog_7_method_10_code 25 = .ok (.invokevirtual 90, 3) := by decide +kernel
theorem d86_28 : decode prog_7_method_10_code 28 = .ok (.if_icmp .le 5, 3) := by decide +kernel
theorem d86_31 : decode prog_7_method_10_code 31 = .ok (.iload_n 3, 1) := by decide +kernel
theorem d86_32 : decode prog_7_method_10_code 32 = .ok (.istore_n 2, 1) := by decide +kernel
theorem d86_33 : decode prog_7_method_10_code 33 = .ok (.iinc 3 1, 3) := by decide +kernel
theorem d86_36 : decode prog_7_method_10_code 36 = .ok (.goto (-32), 3) := by decide +kernel
theorem d86_39 : decode prog_7_method_10_code 39 = .ok (.iload_n 2, 1) := by decide +kernel
theorem d86_40 : decode prog_7_method_10_code 40 = .ok (.ireturn, 1) := by decide +kernel
theorem b86 {X : mj_X} {d : Nat} {w : mj_W} {x0 : Nat} {x1 : Nat} : mj_call X d 86 [.ref x0, .ref x1] w = mj_exec X d 86 0 [some (.ref x0), some (.ref x1), none, none] [] w := mw_ent mw_m86 (Nat.le_of_ble_eq_true rfl) rfl
theorem b86_0 {X : mj_X} {d : Nat} {s : mw_S} {k1 : Nat} {l2 : Option Value} {l3 : Option Value} (h1 : mw_cl k1 = some 3) : mj_exec X d 86 0 [some (.ref 34), some (.ref k1), l2, l3] [] (mw_U s) = mj_exec X d 86 4 [some (.ref 34), some (.ref k1), some (.int (-1)), some (.int (nI 0))] [] (mw_U s) := (mj_q_iconst mw_m86 d86_0 mw_k_iconst_m1).trans ((mj_q_istore_n mw_m86 d86_1 (Nat.le_of_ble_eq_true rfl) rfl rfl).trans ((mj_q_iconst mw_m86 d86_2 mw_k_iconst_0).trans (mj_q_istore_n mw_m86 d86_3 (Nat.le_of_ble_eq_true rfl) rfl rfl)))
theorem b86_4 {X : mj_X} {d : Nat} {s : mw_S} {k1 : Nat} {x2 : Int32} {x3 : Int32} (h1 : mw_cl k1 = some 3) : mj_exec X d 86 4 [some (.ref 34), some (.ref k1), some (.int x2), some (.int x3)] [] (mw_U s) = if (nI 28) ≤ x3 then mj_exec X d 86 39 [some (.ref 34), some (.ref k1), some (.int x2), some (.int x3)] [] (mw_U s) else mj_exec X d 86 10 [some (.ref 34), some (.ref k1), some (.int x2), some (.int x3)] [] (mw_U s) := (mj_q_iload_n mw_m86 d86_4 rfl).trans ((mj_q_bipush mw_m86 d86_5 mw_k_bipush_28).trans (mj_q_icmp_ge mw_m86 d86_7 rfl))
theorem b86_10 {X : mj_X} {d : Nat} {s : mw_S} {k1 : Nat} {x2 : Int32} {x3 : Int32} (h1 : mw_cl k1 = some 3) : mj_exec X (d + 1) 86 10 [some (.ref 34), some (.ref k1), some (.int x2), some (.int x3)] [] (mw_U s) = (mj_call X d 36 [.ref k1, .int x3] (mw_U s)).bind (mj_bk X (d + 1) 86 15 [some (.ref 34), some (.ref k1), some (.int x2), some (.int x3)] []) := (mj_q_aload_n mw_m86 d86_10 rfl (mw_neo h1)).trans ((mj_q_iload_n mw_m86 d86_11 rfl).trans (mw_q_callv mw_m86 rfl d86_12 mw_p4_87 mw_m36 rfl rfl (Nat.le_of_ble_eq_true rfl) (Nat.le_of_ble_eq_true rfl) rfl (mw_rcv h1) rfl rfl))
theorem b86_15 {X : mj_X} {d : Nat} {s : mw_S} {k1 : Nat} {x2 : Int32} {x3 : Int32} {xs0 : Int32} (h1 : mw_cl k1 = some 3) : mj_exec X d 86 15 [some (.ref 34), some (.ref k1), some (.int x2), some (.int x3)] [.int xs0] (mw_U s) = if xs0 = 0 then mj_exec X d 86 33 [some (.ref 34), some (.ref k1), some (.int x2), some (.int x3)] [] (mw_U s) else mj_exec X d 86 18 [some (.ref 34), some (.ref k1), some (.int x2), some (.int x3)] [] (mw_U s) := mj_q_if_eq mw_m86 d86_15 rfl
theorem b86_18 {X : mj_X} {d : Nat} {s : mw_S} {k1 : Nat} {x2 : Int32} {x3 : Int32} (h1 : mw_cl k1 = some 3) : mj_exec X (d + 1) 86 18 [some (.ref 34), some (.ref k1), some (.int x2), some (.int x3)] [] (mw_U s) = (mj_call X d 87 [.ref 34, .int x3] (mw_U s)).bind (mj_bk X (d + 1) 86 23 [some (.ref 34), some (.ref k1), some (.int x2), some (.int x3)] []) := (mj_q_aload_n mw_m86 d86_18 rfl (by decide)).trans ((mj_q_iload_n mw_m86 d86_19 rfl).trans (mw_q_callv mw_m86 rfl d86_20 mw_p4_90 mw_m87 rfl rfl (Nat.le_of_ble_eq_true rfl) (Nat.le_of_ble_eq_true rfl) rfl (mw_rcv mw_c_34) rfl rfl))
theorem b86_23 {X : mj_X} {d : Nat} {s : mw_S} {k1 : Nat} {x2 : Int32} {x3 : Int32} {xs0 : Int32} (h1 : mw_cl k1 = some 3) : mj_exec X (d + 1) 86 23 [some (.ref 34), some (.ref k1), some (.int x2), some (.int x3)] [.int xs0] (mw_U s) = (mj_call X d 87 [.ref 34, .int x2] (mw_U s)).bind (mj_bk X (d + 1) 86 28 [some (.ref 34), some (.ref k1), some (.int x2), some (.int x3)] [.int xs0]) := (mj_q_aload_n mw_m86 d86_23 rfl (by decide)).trans ((mj_q_iload_n mw_m86 d86_24 rfl).trans (mw_q_callv mw_m86 rfl d86_25 mw_p4_90 mw_m87 rfl rfl (Nat.le_of_ble_eq_true rfl) (Nat.le_of_ble_eq_true rfl) rfl (mw_rcv mw_c_34) rfl rfl))
theorem b86_28 {X : mj_X} {d : Nat} {s : mw_S} {k1 : Nat} {x2 : Int32} {x3 : Int32} {xs0 : Int32} {xs1 : Int32} (h1 : mw_cl k1 = some 3) : mj_exec X d 86 28 [some (.ref 34), some (.ref k1), some (.int x2), some (.int x3)] [.int xs1, .int xs0] (mw_U s) = if xs0 ≤ xs1 then mj_exec X d 86 33 [some (.ref 34), some (.ref k1), some (.int x2), some (.int x3)] [] (mw_U s) else mj_exec X d 86 31 [some (.ref 34), some (.ref k1), some (.int x2), some (.int x3)] [] (mw_U s) := mj_q_icmp_le mw_m86 d86_28 rfl
theorem b86_31 {X : mj_X} {d : Nat} {s : mw_S} {k1 : Nat} {x2 : Int32} {x3 : Int32} (h1 : mw_cl k1 = some 3) : mj_exec X d 86 31 [some (.ref 34), some (.ref k1), some (.int x2), some (.int x3)] [] (mw_U s) = mj_exec X d 86 33 [some (.ref 34), some (.ref k1), some (.int x3), some (.int x3)] [] (mw_U s) := (mj_q_iload_n mw_m86 d86_31 rfl).trans (mj_q_istore_n mw_m86 d86_32 (Nat.le_of_ble_eq_true rfl) rfl rfl)
theorem b86_33 {X : mj_X} {d : Nat} {s : mw_S} {k1 : Nat} {x2 : Int32} {x3 : Int32} (h1 : mw_cl k1 = some 3) : mj_exec X d 86 33 [some (.ref 34), some (.ref k1), some (.int x2), some (.int x3)] [] (mw_U s) = mj_exec X d 86 4 [some (.ref 34), some (.ref k1), some (.int x2), some (.int (x3 + (nI 1)))] [] (mw_U s) := (mj_q_iinc mw_m86 d86_33 rfl (Nat.le_of_ble_eq_true rfl) rfl mw_k_iconst_1 rfl).trans (mj_q_goto mw_m86 d86_36 rfl)
theorem b86_39 {X : mj_X} {d : Nat} {s : mw_S} {k1 : Nat} {x2 : Int32} {x3 : Int32} (h1 : mw_cl k1 = some 3) : mj_exec X d 86 39 [some (.ref 34), some (.ref k1), some (.int x2), some (.int x3)] [] (mw_U s) = some (.inl (some (.int x2)), mw_U s) := (mj_q_iload_n mw_m86 d86_39 rfl).trans (mj_q_iret mw_m86 d86_40 rfl)
/-- WivesQuarrels$Guesses.unlike -/
theorem d87_0 : decode prog_7_method_9_code 0 = .ok (.iload_n 1, 1) := by decide +kernel
theorem d87_1 : decode prog_7_method_9_code 1 = .ok (.ifCond .lt 9, 3) := by decide +kernel
theorem d87_4 : decode prog_7_method_9_code 4 = .ok (.iload_n 1, 1) := by decide +kernel
theorem d87_5 : decode prog_7_method_9_code 5 = .ok (.bipush 28, 2) := by decide +kernel
theorem d87_7 : decode prog_7_method_9_code 7 = .ok (.if_icmp .lt 5, 3) := by decide +kernel
theorem d87_10 : decode prog_7_method_9_code 10 = .ok (.iconst 0, 1) := by decide +kernel
theorem d87_11 : decode prog_7_method_9_code 11 = .ok (.ireturn, 1) := by decide +kernel
theorem d87_12 : decode prog_7_method_9_code 12 = .ok (.aload_n 0, 1) := by decide +kernel
theorem d87_13 : decode prog_7_method_9_code 13 = .ok (.getfield 22, 3) := by decide +kernel
theorem d87_16 : decode prog_7_method_9_code 16 = .ok (.iconst 2, 1) := by decide +kernel
theorem d87_17 : decode prog_7_method_9_code 17 = .ok (.iload_n 1, 1) := by decide +kernel
theorem d87_18 : decode prog_7_method_9_code 18 = .ok (.imul, 1) := by decide +kernel
theorem d87_19 : decode prog_7_method_9_code 19 = .ok (.laload, 1) := by decide +kernel
theorem d87_20 : decode prog_7_method_9_code 20 = .ok (.invokestatic 81, 3) := by decide +kernel
theorem d87_23 : decode prog_7_method_9_code 23 = .ok (.aload_n 0, 1) := by decide +kernel
theorem d87_24 : decode prog_7_method_9_code 24 = .ok (.getfield 22, 3) := by decide +kernel
theorem d87_27 : decode prog_7_method_9_code 27 = .ok (.iconst 2, 1) := by decide +kernel
theorem d87_28 : decode prog_7_method_9_code 28 = .ok (.iload_n 1, 1) := by decide +kernel
theorem d87_29 : decode prog_7_method_9_code 29 = .ok (.imul, 1) := by decide +kernel
theorem d87_30 : decode prog_7_method_9_code 30 = .ok (.iconst 1, 1) := by decide +kernel
theorem d87_31 : decode prog_7_method_9_code 31 = .ok (.iadd, 1) := by decide +kernel
theorem d87_32 : decode prog_7_method_9_code 32 = .ok (.laload, 1) := by decide +kernel
theorem d87_33 : decode prog_7_method_9_code 33 = .ok (.invokestatic 81, 3) := by decide +kernel
theorem d87_36 : decode prog_7_method_9_code 36 = .ok (.iadd, 1) := by decide +kernel
theorem d87_37 : decode prog_7_method_9_code 37 = .ok (.ireturn, 1) := by decide +kernel
theorem b87 {X : mj_X} {d : Nat} {w : mj_W} {x0 : Nat} {x1 : Int32} : mj_call X d 87 [.ref x0, .int x1] w = mj_exec X d 87 0 [some (.ref x0), some (.int x1)] [] w := mw_ent mw_m87 (Nat.le_of_ble_eq_true rfl) rfl
theorem b87_0 {X : mj_X} {d : Nat} {s : mw_S} {x1 : Int32}  : mj_exec X d 87 0 [some (.ref 34), some (.int x1)] [] (mw_U s) = if x1 < 0 then mj_exec X d 87 10 [some (.ref 34), some (.int x1)] [] (mw_U s) else mj_exec X d 87 4 [some (.ref 34), some (.int x1)] [] (mw_U s) := (mj_q_iload_n mw_m87 d87_0 rfl).trans (mj_q_if_lt mw_m87 d87_1 rfl)
theorem b87_4 {X : mj_X} {d : Nat} {s : mw_S} {x1 : Int32}  : mj_exec X d 87 4 [some (.ref 34), some (.int x1)] [] (mw_U s) = if x1 < (nI 28) then mj_exec X d 87 12 [some (.ref 34), some (.int x1)] [] (mw_U s) else mj_exec X d 87 10 [some (.ref 34), some (.int x1)] [] (mw_U s) := (mj_q_iload_n mw_m87 d87_4 rfl).trans ((mj_q_bipush mw_m87 d87_5 mw_k_bipush_28).trans (mj_q_icmp_lt mw_m87 d87_7 rfl))
theorem b87_10 {X : mj_X} {d : Nat} {s : mw_S} {x1 : Int32}  : mj_exec X d 87 10 [some (.ref 34), some (.int x1)] [] (mw_U s) = some (.inl (some (.int (nI 0))), mw_U s) := (mj_q_iconst mw_m87 d87_10 mw_k_iconst_0).trans (mj_q_iret mw_m87 d87_11 rfl)
theorem b87_12 {X : mj_X} {d : Nat} {s : mw_S} {x1 : Int32}  : mj_exec X (d + 1) 87 12 [some (.ref 34), some (.int x1)] [] (mw_U s) = if mw_in 56 ((nI 2) * x1) = true then (mj_call X d 349 [.long (s.2.1 38 (((nI 2) * x1)).toNatClampNeg)] (mw_U s)).bind (mj_bk X (d + 1) 87 23 [some (.ref 34), some (.int x1)] []) else none := (mj_q_aload_n mw_m87 d87_12 rfl (by decide)).trans ((mw_q_getr mw_m87 d87_13 mw_p4_22 mw_c_34 mw_f_34_2).trans ((mj_q_iconst mw_m87 d87_16 mw_k_iconst_2).trans ((mj_q_iload_n mw_m87 d87_17 rfl).trans ((mj_q_imul mw_m87 d87_18).trans ((mw_h_lald mw_m87 d87_19 mw_l_38).trans (mw_g (mw_q_calls mw_m87 rfl d87_20 mw_p4_81 mw_m349 rfl (Nat.le_of_ble_eq_true rfl) (Nat.le_of_ble_eq_true rfl) rfl rfl)))))))
theorem b87_23 {X : mj_X} {d : Nat} {s : mw_S} {x1 : Int32} {xs0 : Int32}  : mj_exec X (d + 1) 87 23 [some (.ref 34), some (.int x1)] [.int xs0] (mw_U s) = if mw_in 56 (((nI 2) * x1) + (nI 1)) = true then (mj_call X d 349 [.long (s.2.1 38 ((((nI 2) * x1) + (nI 1))).toNatClampNeg)] (mw_U s)).bind (mj_bk X (d + 1) 87 36 [some (.ref 34), some (.int x1)] [.int xs0]) else none := (mj_q_aload_n mw_m87 d87_23 rfl (by decide)).trans ((mw_q_getr mw_m87 d87_24 mw_p4_22 mw_c_34 mw_f_34_2).trans ((mj_q_iconst mw_m87 d87_27 mw_k_iconst_2).trans ((mj_q_iload_n mw_m87 d87_28 rfl).trans ((mj_q_imul mw_m87 d87_29).trans ((mj_q_iconst mw_m87 d87_30 mw_k_iconst_1).trans ((mj_q_iadd mw_m87 d87_31).trans ((mw_h_lald mw_m87 d87_32 mw_l_38).trans (mw_g (mw_q_calls mw_m87 rfl d87_33 mw_p4_81 mw_m349 rfl (Nat.le_of_ble_eq_true rfl) (Nat.le_of_ble_eq_true rfl) rfl rfl)))))))))
theorem b87_36 {X : mj_X} {d : Nat} {s : mw_S} {x1 : Int32} {xs0 : Int32} {xs1 : Int32}  : mj_exec X d 87 36 [some (.ref 34), some (.int x1)] [.int xs1, .int xs0] (mw_U s) = some (.inl (some (.int (xs0 + xs1))), mw_U s) := (mj_q_iadd mw_m87 d87_36).trans (mj_q_iret mw_m87 d87_37 rfl)
/-- WivesQuarrels$Game.answer -/
theorem d309_0 : decode prog_6_method_2_code 0 = .ok (.iconst 0, 1) := by decide +kernel
theorem d309_1 : decode prog_6_method_2_code 1 = .ok (.istore 4, 2) := by decide +kernel
theorem d309_3 : decode prog_6_method_2_code 3 = .ok (.iconst (-1), 1) := by decide +kernel
theorem d309_4 : decode prog_6_method_2_code 4 = .ok (.istore 5, 2) := by decide +kernel
theorem d309_6 : decode prog_6_method_2_code 6 = .ok (.iconst 0, 1) := by decide +kernel
theorem d309_7 : decode prog_6_method_2_code 7 = .ok (.istore 6, 2) := by decide +kernel
theorem d309_9 : decode prog_6_method_2_code 9 = .ok (.iload 6, 2) := by decide +kernel
theorem d309_11 : decode prog_6_method_2_code 11 = .ok (.iconst 1, 1) := by decide +kernel
theorem d309_12 : decode prog_6_method_2_code 12 = .ok (.if_icmp .gt 72, 3) := by decide +kernel
theorem d309_15 : decode prog_6_method_2_code 15 = .ok (.iconst 0, 1) := by decide +kernel
theorem d309_16 : decode prog_6_method_2_code 16 = .ok (.istore 7, 2) := by decide +kernel
theorem d309_18 : decode prog_6_method_2_code 18 = .ok (.iload 7, 2) := by decide +kernel
theorem d309_20 : decode prog_6_method_2_code 20 = .ok (.iconst 1, 1) := by decide +kernel
theorem d309_21 : decode prog_6_method_2_code 21 = .ok (.if_icmp .gt 57, 3) := by decide +kernel
theorem d309_24 : decode prog_6_method_2_code 24 = .ok (.iload 6, 2) := by decide +kernel
theorem d309_26 : decode prog_6_method_2_code 26 = .ok (.iload 7, 2) := by decide +kernel
theorem d309_28 : decode prog_6_method_2_code 28 = .ok (.iload_n 0, 1) := by decide +kernel
theorem d309_29 : decode prog_6_method_2_code 29 = .ok (.iload_n 2, 1) := by decide +kernel
theorem d309_30 : decode prog_6_method_2_code 30 = .ok (.invokestatic 9, 3) := by decide +kernel
theorem d309_33 : decode prog_6_method_2_code 33 = .ok (.ifCond .eq 39, 3) := by decide +kernel
theorem d309_36 : decode prog_6_method_2_code 36 = .ok (.iload 7, 2) := by decide +kernel
theorem d309_38 : decode prog_6_method_2_code 38 = .ok (.iload 6, 2) := by decide +kernel
theorem d309_40 : decode prog_6_method_2_code 40 = .ok (.iload_n 1, 1) := by decide +kernel
theorem d309_41 : decode prog_6_method_2_code 41 = .ok (.iload_n 2, 1) := by decide +kernel
theorem d309_42 : decode prog_6_method_2_code 42 = .ok (.invokestatic 9, 3) := by decide +kernel
theorem d309_45 : decode prog_6_method_2_code 45 = .ok (.ifCond .eq 27, 3) := by decide +kernel
theorem d309_48 : decode prog_6_method_2_code 48 = .ok (.iinc 4 1, 3) := by decide +kernel
theorem d309_51 : decode prog_6_method_2_code 51 = .ok (.iload 5, 2) := by decide +kernel
theorem d309_53 : decode prog_6_method_2_code 53 = .ok (.iconst (-1), 1) := by decide +kernel
theorem d309_54 : decode prog_6_method_2_code 54 = .ok (.if_icmp .ne 14, 3) := by decide +kernel
theorem d309_57 : decode prog_6_method_2_code 57 = .ok (.bipush 10, 2) := by decide +kernel
theorem d309_59 : decode prog_6_method_2_code 59 = .ok (.iload 6, 2) := by decide +kernel
theorem d309_61 : decode prog_6_method_2_code 61 = .ok (.imul, 1) := by decide +kernel
theorem d309_62 : decode prog_6_method_2_code 62 = .ok (.iload 7, 2) := by decide +kernel
theorem d309_64 : decode prog_6_method_2_code 64 = .ok (.iadd, 1) := by decide +kernel
theorem d309_65 : decode prog_6_method_2_code 65 = .ok (.goto 5, 3) := by decide +kernel
theorem d309_68 : decode prog_6_method_2_code 68 = .ok (.iload 5, 2) := by decide +kernel
theorem d309_70 : decode prog_6_method_2_code 70 = .ok (.istore 5, 2) := by decide +kernel
theorem d309_72 : decode prog_6_method_2_code 72 = .ok (.iinc 7 1, 3) := by decide +kernel
theorem d309_75 : decode prog_6_method_2_code 75 = .ok (.goto (-57), 3) := by decide +kernel
theorem d309_78 : decode prog_6_method_2_code 78 = .ok (.iinc 6 1, 3) := by decide +kernel
theorem d309_81 : decode prog_6_method_2_code 81 = .ok (.goto (-72), 3) := by decide +kernel
theorem d309_84 : decode prog_6_method_2_code 84 = .ok (.iload_n 3, 1) := by decide +kernel
theorem d309_85 : decode prog_6_method_2_code 85 = .ok (.ifCond .ne 8, 3) := by decide +kernel
theorem d309_88 : decode prog_6_method_2_code 88 = .ok (.iload 4, 2) := by decide +kernel
theorem d309_90 : decode prog_6_method_2_code 90 = .ok (.goto 5, 3) := by decide +kernel
theorem d309_93 : decode prog_6_method_2_code 93 = .ok (.iload 5, 2) := by decide +kernel
theorem d309_95 : decode prog_6_method_2_code 95 = .ok (.ireturn, 1) := by decide +kernel
theorem b309 {X : mj_X} {d : Nat} {w : mj_W} {x0 : Int32} {x1 : Int32} {x2 : Int32} {x3 : Int32} : mj_call X d 309 [.int x0, .int x1, .int x2, .int x3] w = mj_exec X d 309 0 [some (.int x0), some (.int x1), some (.int x2), some (.int x3), none, none, none, none] [] w := mw_ent mw_m309 (Nat.le_of_ble_eq_true rfl) rfl
theorem b309_0 {X : mj_X} {d : Nat} {s : mw_S} {x0 : Int32} {x1 : Int32} {x2 : Int32} {x3 : Int32} {l4 : Option Value} {l5 : Option Value} {l6 : Option Value} {l7 : Option Value}  : mj_exec X d 309 0 [some (.int x0), some (.int x1), some (.int x2), some (.int x3), l4, l5, l6, l7] [] (mw_U s) = mj_exec X d 309 9 [some (.int x0), some (.int x1), some (.int x2), some (.int x3), some (.int (nI 0)), some (.int (-1)), some (.int (nI 0)), l7] [] (mw_U s) := (mj_q_iconst mw_m309 d309_0 mw_k_iconst_0).trans ((mj_q_istore mw_m309 d309_1 (Nat.le_of_ble_eq_true rfl) rfl rfl).trans ((mj_q_iconst mw_m309 d309_3 mw_k_iconst_m1).trans ((mj_q_istore mw_m309 d309_4 (Nat.le_of_ble_eq_true rfl) rfl rfl).trans ((mj_q_iconst mw_m309 d309_6 mw_k_iconst_0).trans (mj_q_istore mw_m309 d309_7 (Nat.le_of_ble_eq_true rfl) rfl rfl)))))
theorem b309_9 {X : mj_X} {d : Nat} {s : mw_S} {x0 : Int32} {x1 : Int32} {x2 : Int32} {x3 : Int32} {x4 : Int32} {x5 : Int32} {x6 : Int32} {l7 : Option Value}  : mj_exec X d 309 9 [some (.int x0), some (.int x1), some (.int x2), some (.int x3), some (.int x4), some (.int x5), some (.int x6), l7] [] (mw_U s) = if (nI 1) < x6 then mj_exec X d 309 84 [some (.int x0), some (.int x1), some (.int x2), some (.int x3), some (.int x4), some (.int x5), some (.int x6), l7] [] (mw_U s) else mj_exec X d 309 15 [some (.int x0), some (.int x1), some (.int x2), some (.int x3), some (.int x4), some (.int x5), some (.int x6), l7] [] (mw_U s) := (mj_q_iload mw_m309 d309_9 rfl).trans ((mj_q_iconst mw_m309 d309_11 mw_k_iconst_1).trans (mj_q_icmp_gt mw_m309 d309_12 rfl))
theorem b309_15 {X : mj_X} {d : Nat} {s : mw_S} {x0 : Int32} {x1 : Int32} {x2 : Int32} {x3 : Int32} {x4 : Int32} {x5 : Int32} {x6 : Int32} {l7 : Option Value}  : mj_exec X d 309 15 [some (.int x0), some (.int x1), some (.int x2), some (.int x3), some (.int x4), some (.int x5), some (.int x6), l7] [] (mw_U s) = mj_exec X d 309 18 [some (.int x0), some (.int x1), some (.int x2), some (.int x3), some (.int x4), some (.int x5), some (.int x6), some (.int (nI 0))] [] (mw_U s) := (mj_q_iconst mw_m309 d309_15 mw_k_iconst_0).trans (mj_q_istore mw_m309 d309_16 (Nat.le_of_ble_eq_true rfl) rfl rfl)
theorem b309_18 {X : mj_X} {d : Nat} {s : mw_S} {x0 : Int32} {x1 : Int32} {x2 : Int32} {x3 : Int32} {x4 : Int32} {x5 : Int32} {x6 : Int32} {x7 : Int32}  : mj_exec X d 309 18 [some (.int x0), some (.int x1), some (.int x2), some (.int x3), some (.int x4), some (.int x5), some (.int x6), some (.int x7)] [] (mw_U s) = if (nI 1) < x7 then mj_exec X d 309 78 [some (.int x0), some (.int x1), some (.int x2), some (.int x3), some (.int x4), some (.int x5), some (.int x6), some (.int x7)] [] (mw_U s) else mj_exec X d 309 24 [some (.int x0), some (.int x1), some (.int x2), some (.int x3), some (.int x4), some (.int x5), some (.int x6), some (.int x7)] [] (mw_U s) := (mj_q_iload mw_m309 d309_18 rfl).trans ((mj_q_iconst mw_m309 d309_20 mw_k_iconst_1).trans (mj_q_icmp_gt mw_m309 d309_21 rfl))
theorem b309_24 {X : mj_X} {d : Nat} {s : mw_S} {x0 : Int32} {x1 : Int32} {x2 : Int32} {x3 : Int32} {x4 : Int32} {x5 : Int32} {x6 : Int32} {x7 : Int32}  : mj_exec X (d + 1) 309 24 [some (.int x0), some (.int x1), some (.int x2), some (.int x3), some (.int x4), some (.int x5), some (.int x6), some (.int x7)] [] (mw_U s) = (mj_call X d 310 [.int x6, .int x7, .int x0, .int x2] (mw_U s)).bind (mj_bk X (d + 1) 309 33 [some (.int x0), some (.int x1), some (.int x2), some (.int x3), some (.int x4), some (.int x5), some (.int x6), some (.int x7)] []) := (mj_q_iload mw_m309 d309_24 rfl).trans ((mj_q_iload mw_m309 d309_26 rfl).trans ((mj_q_iload_n mw_m309 d309_28 rfl).trans ((mj_q_iload_n mw_m309 d309_29 rfl).trans (mw_q_calls mw_m309 rfl d309_30 mw_p10_9 mw_m310 rfl (Nat.le_of_ble_eq_true rfl) (Nat.le_of_ble_eq_true rfl) rfl rfl))))
theorem b309_33 {X : mj_X} {d : Nat} {s : mw_S} {x0 : Int32} {x1 : Int32} {x2 : Int32} {x3 : Int32} {x4 : Int32} {x5 : Int32} {x6 : Int32} {x7 : Int32} {xs0 : Int32}  : mj_exec X d 309 33 [some (.int x0), some (.int x1), some (.int x2), some (.int x3), some (.int x4), some (.int x5), some (.int x6), some (.int x7)] [.int xs0] (mw_U s) = if xs0 = 0 then mj_exec X d 309 72 [some (.int x0), some (.int x1), some (.int x2), some (.int x3), some (.int x4), some (.int x5), some (.int x6), some (.int x7)] [] (mw_U s) else mj_exec X d 309 36 [some (.int x0), some (.int x1), some (.int x2), some (.int x3), some (.int x4), some (.int x5), some (.int x6), some (.int x7)] [] (mw_U s) := mj_q_if_eq mw_m309 d309_33 rfl
theorem b309_36 {X : mj_X} {d : Nat} {s : mw_S} {x0 : Int32} {x1 : Int32} {x2 : Int32} {x3 : Int32} {x4 : Int32} {x5 : Int32} {x6 : Int32} {x7 : Int32}  : mj_exec X (d + 1) 309 36 [some (.int x0), some (.int x1), some (.int x2), some (.int x3), some (.int x4), some (.int x5), some (.int x6), some (.int x7)] [] (mw_U s) = (mj_call X d 310 [.int x7, .int x6, .int x1, .int x2] (mw_U s)).bind (mj_bk X (d + 1) 309 45 [some (.int x0), some (.int x1), some (.int x2), some (.int x3), some (.int x4), some (.int x5), some (.int x6), some (.int x7)] []) := (mj_q_iload mw_m309 d309_36 rfl).trans ((mj_q_iload mw_m309 d309_38 rfl).trans ((mj_q_iload_n mw_m309 d309_40 rfl).trans ((mj_q_iload_n mw_m309 d309_41 rfl).trans (mw_q_calls mw_m309 rfl d309_42 mw_p10_9 mw_m310 rfl (Nat.le_of_ble_eq_true rfl) (Nat.le_of_ble_eq_true rfl) rfl rfl))))
theorem b309_45 {X : mj_X} {d : Nat} {s : mw_S} {x0 : Int32} {x1 : Int32} {x2 : Int32} {x3 : Int32} {x4 : Int32} {x5 : Int32} {x6 : Int32} {x7 : Int32} {xs0 : Int32}  : mj_exec X d 309 45 [some (.int x0), some (.int x1), some (.int x2), some (.int x3), some (.int x4), some (.int x5), some (.int x6), some (.int x7)] [.int xs0] (mw_U s) = if xs0 = 0 then mj_exec X d 309 72 [some (.int x0), some (.int x1), some (.int x2), some (.int x3), some (.int x4), some (.int x5), some (.int x6), some (.int x7)] [] (mw_U s) else mj_exec X d 309 48 [some (.int x0), some (.int x1), some (.int x2), some (.int x3), some (.int x4), some (.int x5), some (.int x6), some (.int x7)] [] (mw_U s) := mj_q_if_eq mw_m309 d309_45 rfl
theorem b309_48 {X : mj_X} {d : Nat} {s : mw_S} {x0 : Int32} {x1 : Int32} {x2 : Int32} {x3 : Int32} {x4 : Int32} {x5 : Int32} {x6 : Int32} {x7 : Int32}  : mj_exec X d 309 48 [some (.int x0), some (.int x1), some (.int x2), some (.int x3), some (.int x4), some (.int x5), some (.int x6), some (.int x7)] [] (mw_U s) = if x5 = (-1) then mj_exec X d 309 57 [some (.int x0), some (.int x1), some (.int x2), some (.int x3), some (.int (x4 + (nI 1))), some (.int x5), some (.int x6), some (.int x7)] [] (mw_U s) else mj_exec X d 309 68 [some (.int x0), some (.int x1), some (.int x2), some (.int x3), some (.int (x4 + (nI 1))), some (.int x5), some (.int x6), some (.int x7)] [] (mw_U s) := (mj_q_iinc mw_m309 d309_48 rfl (Nat.le_of_ble_eq_true rfl) rfl mw_k_iconst_1 rfl).trans ((mj_q_iload mw_m309 d309_51 rfl).trans ((mj_q_iconst mw_m309 d309_53 mw_k_iconst_m1).trans (mj_q_icmp_ne mw_m309 d309_54 rfl)))
theorem b309_57 {X : mj_X} {d : Nat} {s : mw_S} {x0 : Int32} {x1 : Int32} {x2 : Int32} {x3 : Int32} {x4 : Int32} {x5 : Int32} {x6 : Int32} {x7 : Int32}  : mj_exec X d 309 57 [some (.int x0), some (.int x1), some (.int x2), some (.int x3), some (.int x4), some (.int x5), some (.int x6), some (.int x7)] [] (mw_U s) = mj_exec X d 309 70 [some (.int x0), some (.int x1), some (.int x2), some (.int x3), some (.int x4), some (.int x5), some (.int x6), some (.int x7)] [.int (((nI 10) * x6) + x7)] (mw_U s) := (mj_q_bipush mw_m309 d309_57 mw_k_bipush_10).trans ((mj_q_iload mw_m309 d309_59 rfl).trans ((mj_q_imul mw_m309 d309_61).trans ((mj_q_iload mw_m309 d309_62 rfl).trans ((mj_q_iadd mw_m309 d309_64).trans (mj_q_goto mw_m309 d309_65 rfl)))))
theorem b309_68 {X : mj_X} {d : Nat} {s : mw_S} {x0 : Int32} {x1 : Int32} {x2 : Int32} {x3 : Int32} {x4 : Int32} {x5 : Int32} {x6 : Int32} {x7 : Int32}  : mj_exec X d 309 68 [some (.int x0), some (.int x1), some (.int x2), some (.int x3), some (.int x4), some (.int x5), some (.int x6), some (.int x7)] [] (mw_U s) = mj_exec X d 309 70 [some (.int x0), some (.int x1), some (.int x2), some (.int x3), some (.int x4), some (.int x5), some (.int x6), some (.int x7)] [.int x5] (mw_U s) := mj_q_iload mw_m309 d309_68 rfl
theorem b309_70 {X : mj_X} {d : Nat} {s : mw_S} {x0 : Int32} {x1 : Int32} {x2 : Int32} {x3 : Int32} {x4 : Int32} {x5 : Int32} {x6 : Int32} {x7 : Int32} {xs0 : Int32}  : mj_exec X d 309 70 [some (.int x0), some (.int x1), some (.int x2), some (.int x3), some (.int x4), some (.int x5), some (.int x6), some (.int x7)] [.int xs0] (mw_U s) = mj_exec X d 309 72 [some (.int x0), some (.int x1), some (.int x2), some (.int x3), some (.int x4), some (.int xs0), some (.int x6), some (.int x7)] [] (mw_U s) := mj_q_istore mw_m309 d309_70 (Nat.le_of_ble_eq_true rfl) rfl rfl
theorem b309_72 {X : mj_X} {d : Nat} {s : mw_S} {x0 : Int32} {x1 : Int32} {x2 : Int32} {x3 : Int32} {x4 : Int32} {x5 : Int32} {x6 : Int32} {x7 : Int32}  : mj_exec X d 309 72 [some (.int x0), some (.int x1), some (.int x2), some (.int x3), some (.int x4), some (.int x5), some (.int x6), some (.int x7)] [] (mw_U s) = mj_exec X d 309 18 [some (.int x0), some (.int x1), some (.int x2), some (.int x3), some (.int x4), some (.int x5), some (.int x6), some (.int (x7 + (nI 1)))] [] (mw_U s) := (mj_q_iinc mw_m309 d309_72 rfl (Nat.le_of_ble_eq_true rfl) rfl mw_k_iconst_1 rfl).trans (mj_q_goto mw_m309 d309_75 rfl)
theorem b309_78 {X : mj_X} {d : Nat} {s : mw_S} {x0 : Int32} {x1 : Int32} {x2 : Int32} {x3 : Int32} {x4 : Int32} {x5 : Int32} {x6 : Int32} {x7 : Int32}  : mj_exec X d 309 78 [some (.int x0), some (.int x1), some (.int x2), some (.int x3), some (.int x4), some (.int x5), some (.int x6), some (.int x7)] [] (mw_U s) = mj_exec X d 309 9 [some (.int x0), some (.int x1), some (.int x2), some (.int x3), some (.int x4), some (.int x5), some (.int (x6 + (nI 1))), some (.int x7)] [] (mw_U s) := (mj_q_iinc mw_m309 d309_78 rfl (Nat.le_of_ble_eq_true rfl) rfl mw_k_iconst_1 rfl).trans (mj_q_goto mw_m309 d309_81 rfl)
theorem b309_84 {X : mj_X} {d : Nat} {s : mw_S} {x0 : Int32} {x1 : Int32} {x2 : Int32} {x3 : Int32} {x4 : Int32} {x5 : Int32} {x6 : Int32} {l7 : Option Value}  : mj_exec X d 309 84 [some (.int x0), some (.int x1), some (.int x2), some (.int x3), some (.int x4), some (.int x5), some (.int x6), l7] [] (mw_U s) = if x3 = 0 then mj_exec X d 309 88 [some (.int x0), some (.int x1), some (.int x2), some (.int x3), some (.int x4), some (.int x5), some (.int x6), l7] [] (mw_U s) else mj_exec X d 309 93 [some (.int x0), some (.int x1), some (.int x2), some (.int x3), some (.int x4), some (.int x5), some (.int x6), l7] [] (mw_U s) := (mj_q_iload_n mw_m309 d309_84 rfl).trans (mj_q_if_ne mw_m309 d309_85 rfl)
theorem b309_88 {X : mj_X} {d : Nat} {s : mw_S} {x0 : Int32} {x1 : Int32} {x2 : Int32} {x3 : Int32} {x4 : Int32} {x5 : Int32} {x6 : Int32} {l7 : Option Value}  : mj_exec X d 309 88 [some (.int x0), some (.int x1), some (.int x2), some (.int x3), some (.int x4), some (.int x5), some (.int x6), l7] [] (mw_U s) = mj_exec X d 309 95 [some (.int x0), some (.int x1), some (.int x2), some (.int x3), some (.int x4), some (.int x5), some (.int x6), l7] [.int x4] (mw_U s) := (mj_q_iload mw_m309 d309_88 rfl).trans (mj_q_goto mw_m309 d309_90 rfl)
theorem b309_93 {X : mj_X} {d : Nat} {s : mw_S} {x0 : Int32} {x1 : Int32} {x2 : Int32} {x3 : Int32} {x4 : Int32} {x5 : Int32} {x6 : Int32} {l7 : Option Value}  : mj_exec X d 309 93 [some (.int x0), some (.int x1), some (.int x2), some (.int x3), some (.int x4), some (.int x5), some (.int x6), l7] [] (mw_U s) = mj_exec X d 309 95 [some (.int x0), some (.int x1), some (.int x2), some (.int x3), some (.int x4), some (.int x5), some (.int x6), l7] [.int x5] (mw_U s) := mj_q_iload mw_m309 d309_93 rfl
theorem b309_95 {X : mj_X} {d : Nat} {s : mw_S} {x0 : Int32} {x1 : Int32} {x2 : Int32} {x3 : Int32} {x4 : Int32} {x5 : Int32} {x6 : Int32} {l7 : Option Value} {xs0 : Int32}  : mj_exec X d 309 95 [some (.int x0), some (.int x1), some (.int x2), some (.int x3), some (.int x4), some (.int x5), some (.int x6), l7] [.int xs0] (mw_U s) = some (.inl (some (.int xs0)), mw_U s) := mj_q_iret mw_m309 d309_95 rfl
/-- WivesQuarrels$Game.isBest -/
theorem d310_0 : decode prog_6_method_3_code 0 = .ok (.iload_n 0, 1) := by decide +kernel
theorem d310_1 : decode prog_6_method_3_code 1 = .ok (.iload_n 1, 1) := by decide +kernel
theorem d310_2 : decode prog_6_method_3_code 2 = .ok (.iload_n 2, 1) := by decide +kernel
theorem d310_3 : decode prog_6_method_3_code 3 = .ok (.iload_n 3, 1) := by decide +kernel
theorem d310_4 : decode prog_6_method_3_code 4 = .ok (.invokestatic 15, 3) := by decide +kernel
theorem d310_7 : decode prog_6_method_3_code 7 = .ok (.iconst 1, 1) := by decide +kernel
theorem d310_8 : decode prog_6_method_3_code 8 = .ok (.iload_n 0, 1) := by decide +kernel
theorem d310_9 : decode prog_6_method_3_code 9 = .ok (.isub, 1) := by decide +kernel
theorem d310_10 : decode prog_6_method_3_code 10 = .ok (.iload_n 1, 1) := by decide +kernel
theorem d310_11 : decode prog_6_method_3_code 11 = .ok (.iload_n 2, 1) := by decide +kernel
theorem d310_12 : decode prog_6_method_3_code 12 = .ok (.iload_n 3, 1) := by decide +kernel
theorem d310_13 : decode prog_6_method_3_code 13 = .ok (.invokestatic 15, 3) := by decide +kernel
theorem d310_16 : decode prog_6_method_3_code 16 = .ok (.if_icmp .lt 7, 3) := by decide +kernel
theorem d310_19 : decode prog_6_method_3_code 19 = .ok (.iconst 1, 1) := by decide +kernel
theorem d310_20 : decode prog_6_method_3_code 20 = .ok (.goto 4, 3) := by decide +kernel
theorem d310_23 : decode prog_6_method_3_code 23 = .ok (.iconst 0, 1) := by decide +kernel
theorem d310_24 : decode prog_6_method_3_code 24 = .ok (.ireturn, 1) := by decide +kernel
theorem b310 {X : mj_X} {d : Nat} {w : mj_W} {x0 : Int32} {x1 : Int32} {x2 : Int32} {x3 : Int32} : mj_call X d 310 [.int x0, .int x1, .int x2, .int x3] w = mj_exec X d 310 0 [some (.int x0), some (.int x1), some (.int x2), some (.int x3)] [] w := mw_ent mw_m310 (Nat.le_of_ble_eq_true rfl) rfl
theorem b310_0 {X : mj_X} {d : Nat} {s : mw_S} {x0 : Int32} {x1 : Int32} {x2 : Int32} {x3 : Int32}  : mj_exec X (d + 1) 310 0 [some (.int x0), some (.int x1), some (.int x2), some (.int x3)] [] (mw_U s) = (mj_call X d 311 [.int x0, .int x1, .int x2, .int x3] (mw_U s)).bind (mj_bk X (d + 1) 310 7 [some (.int x0), some (.int x1), some (.int x2), some (.int x3)] []) := (mj_q_iload_n mw_m310 d310_0 rfl).trans ((mj_q_iload_n mw_m310 d310_1 rfl).trans ((mj_q_iload_n mw_m310 d310_2 rfl).trans ((mj_q_iload_n mw_m310 d310_3 rfl).trans (mw_q_calls mw_m310 rfl d310_4 mw_p10_15 mw_m311 rfl (Nat.le_of_ble_eq_true rfl) (Nat.le_of_ble_eq_true rfl) rfl rfl))))
theorem b310_7 {X : mj_X} {d : Nat} {s : mw_S} {x0 : Int32} {x1 : Int32} {x2 : Int32} {x3 : Int32} {xs0 : Int32}  : mj_exec X (d + 1) 310 7 [some (.int x0), some (.int x1), some (.int x2), some (.int x3)] [.int xs0] (mw_U s) = (mj_call X d 311 [.int ((nI 1) - x0), .int x1, .int x2, .int x3] (mw_U s)).bind (mj_bk X (d + 1) 310 16 [some (.int x0), some (.int x1), some (.int x2), some (.int x3)] [.int xs0]) := (mj_q_iconst mw_m310 d310_7 mw_k_iconst_1).trans ((mj_q_iload_n mw_m310 d310_8 rfl).trans ((mj_q_isub mw_m310 d310_9).trans ((mj_q_iload_n mw_m310 d310_10 rfl).trans ((mj_q_iload_n mw_m310 d310_11 rfl).trans ((mj_q_iload_n mw_m310 d310_12 rfl).trans (mw_q_calls mw_m310 rfl d310_13 mw_p10_15 mw_m311 rfl (Nat.le_of_ble_eq_true rfl) (Nat.le_of_ble_eq_true rfl) rfl rfl))))))
theorem b310_16 {X : mj_X} {d : Nat} {s : mw_S} {x0 : Int32} {x1 : Int32} {x2 : Int32} {x3 : Int32} {xs0 : Int32} {xs1 : Int32}  : mj_exec X d 310 16 [some (.int x0), some (.int x1), some (.int x2), some (.int x3)] [.int xs1, .int xs0] (mw_U s) = if xs0 < xs1 then mj_exec X d 310 23 [some (.int x0), some (.int x1), some (.int x2), some (.int x3)] [] (mw_U s) else mj_exec X d 310 19 [some (.int x0), some (.int x1), some (.int x2), some (.int x3)] [] (mw_U s) := mj_q_icmp_lt mw_m310 d310_16 rfl
theorem b310_19 {X : mj_X} {d : Nat} {s : mw_S} {x0 : Int32} {x1 : Int32} {x2 : Int32} {x3 : Int32}  : mj_exec X d 310 19 [some (.int x0), some (.int x1), some (.int x2), some (.int x3)] [] (mw_U s) = mj_exec X d 310 24 [some (.int x0), some (.int x1), some (.int x2), some (.int x3)] [.int (nI 1)] (mw_U s) := (mj_q_iconst mw_m310 d310_19 mw_k_iconst_1).trans (mj_q_goto mw_m310 d310_20 rfl)
theorem b310_23 {X : mj_X} {d : Nat} {s : mw_S} {x0 : Int32} {x1 : Int32} {x2 : Int32} {x3 : Int32}  : mj_exec X d 310 23 [some (.int x0), some (.int x1), some (.int x2), some (.int x3)] [] (mw_U s) = mj_exec X d 310 24 [some (.int x0), some (.int x1), some (.int x2), some (.int x3)] [.int (nI 0)] (mw_U s) := mj_q_iconst mw_m310 d310_23 mw_k_iconst_0
theorem b310_24 {X : mj_X} {d : Nat} {s : mw_S} {x0 : Int32} {x1 : Int32} {x2 : Int32} {x3 : Int32} {xs0 : Int32}  : mj_exec X d 310 24 [some (.int x0), some (.int x1), some (.int x2), some (.int x3)] [.int xs0] (mw_U s) = if mj_rfit (some .boolean) xs0 = true then some (.inl (some (.int xs0)), mw_U s) else none := mw_h_iret mw_m310 d310_24 rfl
/-- WivesQuarrels$Game.gain -/
theorem d311_0 : decode prog_6_method_4_code 0 = .ok (.iload_n 0, 1) := by decide +kernel
theorem d311_1 : decode prog_6_method_4_code 1 = .ok (.iconst 1, 1) := by decide +kernel
theorem d311_2 : decode prog_6_method_4_code 2 = .ok (.if_icmp .ne 15, 3) := by decide +kernel
theorem d311_5 : decode prog_6_method_4_code 5 = .ok (.iload_n 1, 1) := by decide +kernel
theorem d311_6 : decode prog_6_method_4_code 6 = .ok (.iconst 1, 1) := by decide +kernel
theorem d311_7 : decode prog_6_method_4_code 7 = .ok (.if_icmp .ne 7, 3) := by decide +kernel
theorem d311_10 : decode prog_6_method_4_code 10 = .ok (.iconst 2, 1) := by decide +kernel
theorem d311_11 : decode prog_6_method_4_code 11 = .ok (.goto 5, 3) := by decide +kernel
theorem d311_14 : decode prog_6_method_4_code 14 = .ok (.iload_n 2, 1) := by decide +kernel
theorem d311_15 : decode prog_6_method_4_code 15 = .ok (.ineg, 1) := by decide +kernel
theorem d311_16 : decode prog_6_method_4_code 16 = .ok (.ireturn, 1) := by decide +kernel
theorem d311_17 : decode prog_6_method_4_code 17 = .ok (.iload_n 1, 1) := by decide +kernel
theorem d311_18 : decode prog_6_method_4_code 18 = .ok (.iconst 1, 1) := by decide +kernel
theorem d311_19 : decode prog_6_method_4_code 19 = .ok (.if_icmp .ne 7, 3) := by decide +kernel
theorem d311_22 : decode prog_6_method_4_code 22 = .ok (.iconst 5, 1) := by decide +kernel
theorem d311_23 : decode prog_6_method_4_code 23 = .ok (.goto 5, 3) := by decide +kernel
theorem d311_26 : decode prog_6_method_4_code 26 = .ok (.iload_n 3, 1) := by decide +kernel
theorem d311_27 : decode prog_6_method_4_code 27 = .ok (.ineg, 1) := by decide +kernel
theorem d311_28 : decode prog_6_method_4_code 28 = .ok (.ireturn, 1) := by decide +kernel
theorem b311 {X : mj_X} {d : Nat} {w : mj_W} {x0 : Int32} {x1 : Int32} {x2 : Int32} {x3 : Int32} : mj_call X d 311 [.int x0, .int x1, .int x2, .int x3] w = mj_exec X d 311 0 [some (.int x0), some (.int x1), some (.int x2), some (.int x3)] [] w := mw_ent mw_m311 (Nat.le_of_ble_eq_true rfl) rfl
theorem b311_0 {X : mj_X} {d : Nat} {s : mw_S} {x0 : Int32} {x1 : Int32} {x2 : Int32} {x3 : Int32}  : mj_exec X d 311 0 [some (.int x0), some (.int x1), some (.int x2), some (.int x3)] [] (mw_U s) = if x0 = (nI 1) then mj_exec X d 311 5 [some (.int x0), some (.int x1), some (.int x2), some (.int x3)] [] (mw_U s) else mj_exec X d 311 17 [some (.int x0), some (.int x1), some (.int x2), some (.int x3)] [] (mw_U s) := (mj_q_iload_n mw_m311 d311_0 rfl).trans ((mj_q_iconst mw_m311 d311_1 mw_k_iconst_1).trans (mj_q_icmp_ne mw_m311 d311_2 rfl))
theorem b311_5 {X : mj_X} {d : Nat} {s : mw_S} {x0 : Int32} {x1 : Int32} {x2 : Int32} {x3 : Int32}  : mj_exec X d 311 5 [some (.int x0), some (.int x1), some (.int x2), some (.int x3)] [] (mw_U s) = if x1 = (nI 1) then mj_exec X d 311 10 [some (.int x0), some (.int x1), some (.int x2), some (.int x3)] [] (mw_U s) else mj_exec X d 311 14 [some (.int x0), some (.int x1), some (.int x2), some (.int x3)] [] (mw_U s) := (mj_q_iload_n mw_m311 d311_5 rfl).trans ((mj_q_iconst mw_m311 d311_6 mw_k_iconst_1).trans (mj_q_icmp_ne mw_m311 d311_7 rfl))
theorem b311_10 {X : mj_X} {d : Nat} {s : mw_S} {x0 : Int32} {x1 : Int32} {x2 : Int32} {x3 : Int32}  : mj_exec X d 311 10 [some (.int x0), some (.int x1), some (.int x2), some (.int x3)] [] (mw_U s) = mj_exec X d 311 16 [some (.int x0), some (.int x1), some (.int x2), some (.int x3)] [.int (nI 2)] (mw_U s) := (mj_q_iconst mw_m311 d311_10 mw_k_iconst_2).trans (mj_q_goto mw_m311 d311_11 rfl)
theorem b311_14 {X : mj_X} {d : Nat} {s : mw_S} {x0 : Int32} {x1 : Int32} {x2 : Int32} {x3 : Int32}  : mj_exec X d 311 14 [some (.int x0), some (.int x1), some (.int x2), some (.int x3)] [] (mw_U s) = mj_exec X d 311 16 [some (.int x0), some (.int x1), some (.int x2), some (.int x3)] [.int (-x2)] (mw_U s) := (mj_q_iload_n mw_m311 d311_14 rfl).trans (mj_q_ineg mw_m311 d311_15)
theorem b311_16 {X : mj_X} {d : Nat} {s : mw_S} {x0 : Int32} {x1 : Int32} {x2 : Int32} {x3 : Int32} {xs0 : Int32}  : mj_exec X d 311 16 [some (.int x0), some (.int x1), some (.int x2), some (.int x3)] [.int xs0] (mw_U s) = some (.inl (some (.int xs0)), mw_U s) := mj_q_iret mw_m311 d311_16 rfl
theorem b311_17 {X : mj_X} {d : Nat} {s : mw_S} {x0 : Int32} {x1 : Int32} {x2 : Int32} {x3 : Int32}  : mj_exec X d 311 17 [some (.int x0), some (.int x1), some (.int x2), some (.int x3)] [] (mw_U s) = if x1 = (nI 1) then mj_exec X d 311 22 [some (.int x0), some (.int x1), some (.int x2), some (.int x3)] [] (mw_U s) else mj_exec X d 311 26 [some (.int x0), some (.int x1), some (.int x2), some (.int x3)] [] (mw_U s) := (mj_q_iload_n mw_m311 d311_17 rfl).trans ((mj_q_iconst mw_m311 d311_18 mw_k_iconst_1).trans (mj_q_icmp_ne mw_m311 d311_19 rfl))
theorem b311_22 {X : mj_X} {d : Nat} {s : mw_S} {x0 : Int32} {x1 : Int32} {x2 : Int32} {x3 : Int32}  : mj_exec X d 311 22 [some (.int x0), some (.int x1), some (.int x2), some (.int x3)] [] (mw_U s) = mj_exec X d 311 28 [some (.int x0), some (.int x1), some (.int x2), some (.int x3)] [.int (nI 5)] (mw_U s) := (mj_q_iconst mw_m311 d311_22 mw_k_iconst_5).trans (mj_q_goto mw_m311 d311_23 rfl)
theorem b311_26 {X : mj_X} {d : Nat} {s : mw_S} {x0 : Int32} {x1 : Int32} {x2 : Int32} {x3 : Int32}  : mj_exec X d 311 26 [some (.int x0), some (.int x1), some (.int x2), some (.int x3)] [] (mw_U s) = mj_exec X d 311 28 [some (.int x0), some (.int x1), some (.int x2), some (.int x3)] [.int (-x3)] (mw_U s) := (mj_q_iload_n mw_m311 d311_26 rfl).trans (mj_q_ineg mw_m311 d311_27)
theorem b311_28 {X : mj_X} {d : Nat} {s : mw_S} {x0 : Int32} {x1 : Int32} {x2 : Int32} {x3 : Int32} {xs0 : Int32}  : mj_exec X d 311 28 [some (.int x0), some (.int x1), some (.int x2), some (.int x3)] [.int xs0] (mw_U s) = some (.inl (some (.int xs0)), mw_U s) := mj_q_iret mw_m311 d311_28 rfl
