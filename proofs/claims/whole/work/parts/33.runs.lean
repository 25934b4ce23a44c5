/-! the methods of WivesQuarrels$Tokens, WivesQuarrels$Reader, run by run: printed by wip/whole/gen30.py -/
/-- WivesQuarrels$Reader.readTown -/
theorem d89_0 : decode prog_8_method_6_code 0 = .ok (.aload_n 0, 1) := by decide +kernel
theorem d89_1 : decode prog_8_method_6_code 1 = .ok (.getfield 21, 3) := by decide +kernel
theorem d89_4 : decode prog_8_method_6_code 4 = .ok (.invokevirtual 39, 3) := by decide +kernel
theorem d89_7 : decode prog_8_method_6_code 7 = .ok (.aload_n 0, 1) := by decide +kernel
theorem d89_8 : decode prog_8_method_6_code 8 = .ok (.getfield 28, 3) := by decide +kernel
theorem d89_11 : decode prog_8_method_6_code 11 = .ok (.invokevirtual 42, 3) := by decide +kernel
theorem d89_14 : decode prog_8_method_6_code 14 = .ok (.aload_n 0, 1) := by decide +kernel
theorem d89_15 : decode prog_8_method_6_code 15 = .ok (.iconst 0, 1) := by decide +kernel
theorem d89_16 : decode prog_8_method_6_code 16 = .ok (.putfield 32, 3) := by decide +kernel
theorem d89_19 : decode prog_8_method_6_code 19 = .ok (.aload_n 0, 1) := by decide +kernel
theorem d89_20 : decode prog_8_method_6_code 20 = .ok (.iconst (-1), 1) := by decide +kernel
theorem d89_21 : decode prog_8_method_6_code 21 = .ok (.putfield 36, 3) := by decide +kernel
theorem d89_24 : decode prog_8_method_6_code 24 = .ok (.aload_n 0, 1) := by decide +kernel
theorem d89_25 : decode prog_8_method_6_code 25 = .ok (.getfield 12, 3) := by decide +kernel
theorem d89_28 : decode prog_8_method_6_code 28 = .ok (.aload_n 1, 1) := by decide +kernel
theorem d89_29 : decode prog_8_method_6_code 29 = .ok (.iload_n 2, 1) := by decide +kernel
theorem d89_30 : decode prog_8_method_6_code 30 = .ok (.invokevirtual 43, 3) := by decide +kernel
theorem d89_33 : decode prog_8_method_6_code 33 = .ok (.iconst 0, 1) := by decide +kernel
theorem d89_34 : decode prog_8_method_6_code 34 = .ok (.istore_n 3, 1) := by decide +kernel
theorem d89_35 : decode prog_8_method_6_code 35 = .ok (.iload_n 3, 1) := by decide +kernel
theorem d89_36 : decode prog_8_method_6_code 36 = .ok (.sipush 700, 3) := by decide +kernel
theorem d89_39 : decode prog_8_method_6_code 39 = .ok (.if_icmp .gt 36, 3) := by decide +kernel
theorem d89_42 : decode prog_8_method_6_code 42 = .ok (.aload_n 0, 1) := by decide +kernel
theorem d89_43 : decode prog_8_method_6_code 43 = .ok (.getfield 12, 3) := by decide +kernel
theorem d89_46 : decode prog_8_method_6_code 46 = .ok (.invokevirtual 47, 3) := by decide +kernel
theorem d89_49 : decode prog_8_method_6_code 49 = .ok (.ifCond .eq 26, 3) := by decide +kernel
theorem d89_52 : decode prog_8_method_6_code 52 = .ok (.aload_n 0, 1) := by decide +kernel
theorem d89_53 : decode prog_8_method_6_code 53 = .ok (.invokevirtual 51, 3) := by decide +kernel
theorem d89_56 : decode prog_8_method_6_code 56 = .ok (.ifCond .eq 12, 3) := by decide +kernel
theorem d89_59 : decode prog_8_method_6_code 59 = .ok (.aload_n 0, 1) := by decide +kernel
theorem d89_60 : decode prog_8_method_6_code 60 = .ok (.bipush 59, 2) := by decide +kernel
theorem d89_62 : decode prog_8_method_6_code 62 = .ok (.invokevirtual 55, 3) := by decide +kernel
theorem d89_65 : decode prog_8_method_6_code 65 = .ok (.ifCond .ne 4, 3) := by decide +kernel
theorem d89_68 : decode prog_8_method_6_code 68 = .ok (.return_, 1) := by decide +kernel
theorem d89_69 : decode prog_8_method_6_code 69 = .ok (.iinc 3 1, 3) := by decide +kernel
theorem d89_72 : decode prog_8_method_6_code 72 = .ok (.goto (-37), 3) := by decide +kernel
theorem d89_75 : decode prog_8_method_6_code 75 = .ok (.return_, 1) := by decide +kernel
theorem b89 {X : mj_X} {d : Nat} {w : mj_W} {x0 : Nat} {x1 : Nat} {x2 : Int32} : mj_call X d 89 [.ref x0, .ref x1, .int x2] w = mj_exec X d 89 0 [some (.ref x0), some (.ref x1), some (.int x2), none] [] w := mw_ent mw_m89 (Nat.le_of_ble_eq_true rfl) rfl
theorem b89_0 {X : mj_X} {d : Nat} {s : mw_S} {k1 : Nat} {n1 : Nat} {x2 : Int32} {l3 : Option Value} (h1 : mw_rw k1 = some (.byte, n1)) : mj_exec X (d + 1) 89 0 [some (.ref 22), some (.ref k1), some (.int x2), l3] [] (mw_U s) = (mj_call X d 60 [.ref 25] (mw_U s)).bind (mj_bk X (d + 1) 89 7 [some (.ref 22), some (.ref k1), some (.int x2), l3] []) := (mj_q_aload_n mw_m89 d89_0 rfl (by decide)).trans ((mw_q_getr mw_m89 d89_1 mw_p5_21 mw_c_22 mw_f_22_1).trans (mw_q_callv mw_m89 rfl d89_4 mw_p5_39 mw_m60 rfl rfl (Nat.le_of_ble_eq_true rfl) (Nat.le_of_ble_eq_true rfl) rfl (mw_rcv mw_c_25) rfl rfl))
theorem b89_7 {X : mj_X} {d : Nat} {s : mw_S} {k1 : Nat} {n1 : Nat} {x2 : Int32} {l3 : Option Value} (h1 : mw_rw k1 = some (.byte, n1)) : mj_exec X (d + 1) 89 7 [some (.ref 22), some (.ref k1), some (.int x2), l3] [] (mw_U s) = (mj_call X d 121 [.ref 27] (mw_U s)).bind (mj_bk X (d + 1) 89 14 [some (.ref 22), some (.ref k1), some (.int x2), l3] []) := (mj_q_aload_n mw_m89 d89_7 rfl (by decide)).trans ((mw_q_getr mw_m89 d89_8 mw_p5_28 mw_c_22 mw_f_22_2).trans (mw_q_callv mw_m89 rfl d89_11 mw_p5_42 mw_m121 rfl rfl (Nat.le_of_ble_eq_true rfl) (Nat.le_of_ble_eq_true rfl) rfl (mw_rcv mw_c_27) rfl rfl))
theorem b89_14 {X : mj_X} {d : Nat} {s : mw_S} {k1 : Nat} {n1 : Nat} {x2 : Int32} {l3 : Option Value} (h1 : mw_rw k1 = some (.byte, n1)) : mj_exec X (d + 1) 89 14 [some (.ref 22), some (.ref k1), some (.int x2), l3] [] (mw_U s) = (mj_call X d 130 [.ref 23, .ref k1, .int x2] (mw_U (mw_p (mw_p s 22 3 (nI 0)) 22 4 (-1)))).bind (mj_bk X (d + 1) 89 33 [some (.ref 22), some (.ref k1), some (.int x2), l3] []) := (mj_q_aload_n mw_m89 d89_14 rfl (by decide)).trans ((mj_q_iconst mw_m89 d89_15 mw_k_iconst_0).trans ((mw_q_puti mw_m89 d89_16 mw_p5_32 mw_c_22 mw_f_22_3 (by decide) rfl (.inl rfl)).trans ((mj_q_aload_n mw_m89 d89_19 rfl (by decide)).trans ((mj_q_iconst mw_m89 d89_20 mw_k_iconst_m1).trans ((mw_q_puti mw_m89 d89_21 mw_p5_36 mw_c_22 mw_f_22_4 (by decide) rfl (.inl rfl)).trans ((mj_q_aload_n mw_m89 d89_24 rfl (by decide)).trans ((mw_q_getr mw_m89 d89_25 mw_p5_12 mw_c_22 mw_f_22_0).trans ((mj_q_aload_n mw_m89 d89_28 rfl (mw_nea h1)).trans ((mj_q_iload_n mw_m89 d89_29 rfl).trans (mw_q_callv mw_m89 rfl d89_30 mw_p5_43 mw_m130 rfl rfl (Nat.le_of_ble_eq_true rfl) (Nat.le_of_ble_eq_true rfl) rfl (mw_rcv mw_c_23) rfl rfl))))))))))
theorem b89_33 {X : mj_X} {d : Nat} {s : mw_S} {k1 : Nat} {n1 : Nat} {x2 : Int32} {l3 : Option Value} (h1 : mw_rw k1 = some (.byte, n1)) : mj_exec X d 89 33 [some (.ref 22), some (.ref k1), some (.int x2), l3] [] (mw_U s) = mj_exec X d 89 35 [some (.ref 22), some (.ref k1), some (.int x2), some (.int (nI 0))] [] (mw_U s) := (mj_q_iconst mw_m89 d89_33 mw_k_iconst_0).trans (mj_q_istore_n mw_m89 d89_34 (Nat.le_of_ble_eq_true rfl) rfl rfl)
theorem b89_35 {X : mj_X} {d : Nat} {s : mw_S} {k1 : Nat} {n1 : Nat} {x2 : Int32} {x3 : Int32} (h1 : mw_rw k1 = some (.byte, n1)) : mj_exec X d 89 35 [some (.ref 22), some (.ref k1), some (.int x2), some (.int x3)] [] (mw_U s) = if (nI 700) < x3 then mj_exec X d 89 75 [some (.ref 22), some (.ref k1), some (.int x2), some (.int x3)] [] (mw_U s) else mj_exec X d 89 42 [some (.ref 22), some (.ref k1), some (.int x2), some (.int x3)] [] (mw_U s) := (mj_q_iload_n mw_m89 d89_35 rfl).trans ((mj_q_sipush mw_m89 d89_36 mw_k_sipush_700).trans (mj_q_icmp_gt mw_m89 d89_39 rfl))
theorem b89_42 {X : mj_X} {d : Nat} {s : mw_S} {k1 : Nat} {n1 : Nat} {x2 : Int32} {x3 : Int32} (h1 : mw_rw k1 = some (.byte, n1)) : mj_exec X (d + 1) 89 42 [some (.ref 22), some (.ref k1), some (.int x2), some (.int x3)] [] (mw_U s) = (mj_call X d 135 [.ref 23] (mw_U s)).bind (mj_bk X (d + 1) 89 49 [some (.ref 22), some (.ref k1), some (.int x2), some (.int x3)] []) := (mj_q_aload_n mw_m89 d89_42 rfl (by decide)).trans ((mw_q_getr mw_m89 d89_43 mw_p5_12 mw_c_22 mw_f_22_0).trans (mw_q_callv mw_m89 rfl d89_46 mw_p5_47 mw_m135 rfl rfl (Nat.le_of_ble_eq_true rfl) (Nat.le_of_ble_eq_true rfl) rfl (mw_rcv mw_c_23) rfl rfl))
theorem b89_49 {X : mj_X} {d : Nat} {s : mw_S} {k1 : Nat} {n1 : Nat} {x2 : Int32} {x3 : Int32} {xs0 : Int32} (h1 : mw_rw k1 = some (.byte, n1)) : mj_exec X d 89 49 [some (.ref 22), some (.ref k1), some (.int x2), some (.int x3)] [.int xs0] (mw_U s) = if xs0 = 0 then mj_exec X d 89 75 [some (.ref 22), some (.ref k1), some (.int x2), some (.int x3)] [] (mw_U s) else mj_exec X d 89 52 [some (.ref 22), some (.ref k1), some (.int x2), some (.int x3)] [] (mw_U s) := mj_q_if_eq mw_m89 d89_49 rfl
theorem b89_52 {X : mj_X} {d : Nat} {s : mw_S} {k1 : Nat} {n1 : Nat} {x2 : Int32} {x3 : Int32} (h1 : mw_rw k1 = some (.byte, n1)) : mj_exec X (d + 1) 89 52 [some (.ref 22), some (.ref k1), some (.int x2), some (.int x3)] [] (mw_U s) = (mj_call X d 90 [.ref 22] (mw_U s)).bind (mj_bk X (d + 1) 89 56 [some (.ref 22), some (.ref k1), some (.int x2), some (.int x3)] []) := (mj_q_aload_n mw_m89 d89_52 rfl (by decide)).trans (mw_q_callv mw_m89 rfl d89_53 mw_p5_51 mw_m90 rfl rfl (Nat.le_of_ble_eq_true rfl) (Nat.le_of_ble_eq_true rfl) rfl (mw_rcv mw_c_22) rfl rfl)
theorem b89_56 {X : mj_X} {d : Nat} {s : mw_S} {k1 : Nat} {n1 : Nat} {x2 : Int32} {x3 : Int32} {xs0 : Int32} (h1 : mw_rw k1 = some (.byte, n1)) : mj_exec X d 89 56 [some (.ref 22), some (.ref k1), some (.int x2), some (.int x3)] [.int xs0] (mw_U s) = if xs0 = 0 then mj_exec X d 89 68 [some (.ref 22), some (.ref k1), some (.int x2), some (.int x3)] [] (mw_U s) else mj_exec X d 89 59 [some (.ref 22), some (.ref k1), some (.int x2), some (.int x3)] [] (mw_U s) := mj_q_if_eq mw_m89 d89_56 rfl
theorem b89_59 {X : mj_X} {d : Nat} {s : mw_S} {k1 : Nat} {n1 : Nat} {x2 : Int32} {x3 : Int32} (h1 : mw_rw k1 = some (.byte, n1)) : mj_exec X (d + 1) 89 59 [some (.ref 22), some (.ref k1), some (.int x2), some (.int x3)] [] (mw_U s) = (mj_call X d 106 [.ref 22, .int (nI 59)] (mw_U s)).bind (mj_bk X (d + 1) 89 65 [some (.ref 22), some (.ref k1), some (.int x2), some (.int x3)] []) := (mj_q_aload_n mw_m89 d89_59 rfl (by decide)).trans ((mj_q_bipush mw_m89 d89_60 mw_k_bipush_59).trans (mw_q_callv mw_m89 rfl d89_62 mw_p5_55 mw_m106 rfl rfl (Nat.le_of_ble_eq_true rfl) (Nat.le_of_ble_eq_true rfl) rfl (mw_rcv mw_c_22) rfl rfl))
theorem b89_65 {X : mj_X} {d : Nat} {s : mw_S} {k1 : Nat} {n1 : Nat} {x2 : Int32} {x3 : Int32} {xs0 : Int32} (h1 : mw_rw k1 = some (.byte, n1)) : mj_exec X d 89 65 [some (.ref 22), some (.ref k1), some (.int x2), some (.int x3)] [.int xs0] (mw_U s) = if xs0 = 0 then mj_exec X d 89 68 [some (.ref 22), some (.ref k1), some (.int x2), some (.int x3)] [] (mw_U s) else mj_exec X d 89 69 [some (.ref 22), some (.ref k1), some (.int x2), some (.int x3)] [] (mw_U s) := mj_q_if_ne mw_m89 d89_65 rfl
theorem b89_68 {X : mj_X} {d : Nat} {s : mw_S} {k1 : Nat} {n1 : Nat} {x2 : Int32} {x3 : Int32} (h1 : mw_rw k1 = some (.byte, n1)) : mj_exec X d 89 68 [some (.ref 22), some (.ref k1), some (.int x2), some (.int x3)] [] (mw_U s) = some (.inl none, mw_U s) := mj_q_vret mw_m89 d89_68 rfl
theorem b89_69 {X : mj_X} {d : Nat} {s : mw_S} {k1 : Nat} {n1 : Nat} {x2 : Int32} {x3 : Int32} (h1 : mw_rw k1 = some (.byte, n1)) : mj_exec X d 89 69 [some (.ref 22), some (.ref k1), some (.int x2), some (.int x3)] [] (mw_U s) = mj_exec X d 89 35 [some (.ref 22), some (.ref k1), some (.int x2), some (.int (x3 + (nI 1)))] [] (mw_U s) := (mj_q_iinc mw_m89 d89_69 rfl (Nat.le_of_ble_eq_true rfl) rfl mw_k_iconst_1 rfl).trans (mj_q_goto mw_m89 d89_72 rfl)
theorem b89_75 {X : mj_X} {d : Nat} {s : mw_S} {k1 : Nat} {n1 : Nat} {x2 : Int32} {x3 : Int32} (h1 : mw_rw k1 = some (.byte, n1)) : mj_exec X d 89 75 [some (.ref 22), some (.ref k1), some (.int x2), some (.int x3)] [] (mw_U s) = some (.inl none, mw_U s) := mj_q_vret mw_m89 d89_75 rfl
/-- WivesQuarrels$Reader.readLine -/
theorem d90_0 : decode prog_8_method_9_code 0 = .ok (.aload_n 0, 1) := by decide +kernel
theorem d90_1 : decode prog_8_method_9_code 1 = .ok (.getfield 12, 3) := by decide +kernel
theorem d90_4 : decode prog_8_method_9_code 4 = .ok (.invokevirtual 47, 3) := by decide +kernel
theorem d90_7 : decode prog_8_method_9_code 7 = .ok (.tableswitch 80 209 214 #[37, 37, 60, 65, 70, 75], 37) := by decide +kernel
theorem d90_44 : decode prog_8_method_9_code 44 = .ok (.aload_n 0, 1) := by decide +kernel
theorem d90_45 : decode prog_8_method_9_code 45 = .ok (.aload_n 0, 1) := by decide +kernel
theorem d90_46 : decode prog_8_method_9_code 46 = .ok (.getfield 12, 3) := by decide +kernel
theorem d90_49 : decode prog_8_method_9_code 49 = .ok (.invokevirtual 47, 3) := by decide +kernel
theorem d90_52 : decode prog_8_method_9_code 52 = .ok (.sipush 210, 3) := by decide +kernel
theorem d90_55 : decode prog_8_method_9_code 55 = .ok (.if_icmp .ne 7, 3) := by decide +kernel
theorem d90_58 : decode prog_8_method_9_code 58 = .ok (.iconst 1, 1) := by decide +kernel
theorem d90_59 : decode prog_8_method_9_code 59 = .ok (.goto 4, 3) := by decide +kernel
theorem d90_62 : decode prog_8_method_9_code 62 = .ok (.iconst 0, 1) := by decide +kernel
theorem d90_63 : decode prog_8_method_9_code 63 = .ok (.invokevirtual 68, 3) := by decide +kernel
theorem d90_66 : decode prog_8_method_9_code 66 = .ok (.ireturn, 1) := by decide +kernel
theorem d90_67 : decode prog_8_method_9_code 67 = .ok (.aload_n 0, 1) := by decide +kernel
theorem d90_68 : decode prog_8_method_9_code 68 = .ok (.invokevirtual 72, 3) := by decide +kernel
theorem d90_71 : decode prog_8_method_9_code 71 = .ok (.ireturn, 1) := by decide +kernel
theorem d90_72 : decode prog_8_method_9_code 72 = .ok (.aload_n 0, 1) := by decide +kernel
theorem d90_73 : decode prog_8_method_9_code 73 = .ok (.invokevirtual 75, 3) := by decide +kernel
theorem d90_76 : decode prog_8_method_9_code 76 = .ok (.ireturn, 1) := by decide +kernel
theorem d90_77 : decode prog_8_method_9_code 77 = .ok (.aload_n 0, 1) := by decide +kernel
theorem d90_78 : decode prog_8_method_9_code 78 = .ok (.invokevirtual 78, 3) := by decide +kernel
theorem d90_81 : decode prog_8_method_9_code 81 = .ok (.ireturn, 1) := by decide +kernel
theorem d90_82 : decode prog_8_method_9_code 82 = .ok (.aload_n 0, 1) := by decide +kernel
theorem d90_83 : decode prog_8_method_9_code 83 = .ok (.invokevirtual 81, 3) := by decide +kernel
theorem d90_86 : decode prog_8_method_9_code 86 = .ok (.ireturn, 1) := by decide +kernel
theorem d90_87 : decode prog_8_method_9_code 87 = .ok (.aload_n 0, 1) := by decide +kernel
theorem d90_88 : decode prog_8_method_9_code 88 = .ok (.iconst 1, 1) := by decide +kernel
theorem d90_89 : decode prog_8_method_9_code 89 = .ok (.invokevirtual 62, 3) := by decide +kernel
theorem d90_92 : decode prog_8_method_9_code 92 = .ok (.ireturn, 1) := by decide +kernel
theorem b90 {X : mj_X} {d : Nat} {w : mj_W} {x0 : Nat} : mj_call X d 90 [.ref x0] w = mj_exec X d 90 0 [some (.ref x0)] [] w := mw_ent mw_m90 (Nat.le_of_ble_eq_true rfl) rfl
theorem b90_0 {X : mj_X} {d : Nat} {s : mw_S}   : mj_exec X (d + 1) 90 0 [some (.ref 22)] [] (mw_U s) = (mj_call X d 135 [.ref 23] (mw_U s)).bind (mj_bk X (d + 1) 90 7 [some (.ref 22)] []) := (mj_q_aload_n mw_m90 d90_0 rfl (by decide)).trans ((mw_q_getr mw_m90 d90_1 mw_p5_12 mw_c_22 mw_f_22_0).trans (mw_q_callv mw_m90 rfl d90_4 mw_p5_47 mw_m135 rfl rfl (Nat.le_of_ble_eq_true rfl) (Nat.le_of_ble_eq_true rfl) rfl (mw_rcv mw_c_23) rfl rfl))
theorem b90_7 {X : mj_X} {d : Nat} {s : mw_S} {xs0 : Int32}  : mj_exec X d 90 7 [some (.ref 22)] [.int xs0] (mw_U s) = mw_tl xs0 (209) [mj_exec X d 90 44 [some (.ref 22)] [] (mw_U s), mj_exec X d 90 44 [some (.ref 22)] [] (mw_U s), mj_exec X d 90 67 [some (.ref 22)] [] (mw_U s), mj_exec X d 90 72 [some (.ref 22)] [] (mw_U s), mj_exec X d 90 77 [some (.ref 22)] [] (mw_U s), mj_exec X d 90 82 [some (.ref 22)] [] (mw_U s)] (mj_exec X d 90 87 [some (.ref 22)] [] (mw_U s)) := mw_q_tsw mw_m90 [44, 44, 67, 72, 77, 82] d90_7 rfl (by decide) (by decide)
theorem b90_44 {X : mj_X} {d : Nat} {s : mw_S}   : mj_exec X (d + 1) 90 44 [some (.ref 22)] [] (mw_U s) = (mj_call X d 135 [.ref 23] (mw_U s)).bind (mj_bk X (d + 1) 90 52 [some (.ref 22)] [.ref 22]) := (mj_q_aload_n mw_m90 d90_44 rfl (by decide)).trans ((mj_q_aload_n mw_m90 d90_45 rfl (by decide)).trans ((mw_q_getr mw_m90 d90_46 mw_p5_12 mw_c_22 mw_f_22_0).trans (mw_q_callv mw_m90 rfl d90_49 mw_p5_47 mw_m135 rfl rfl (Nat.le_of_ble_eq_true rfl) (Nat.le_of_ble_eq_true rfl) rfl (mw_rcv mw_c_23) rfl rfl)))
theorem b90_52 {X : mj_X} {d : Nat} {s : mw_S} {xs1 : Int32}  : mj_exec X d 90 52 [some (.ref 22)] [.int xs1, .ref 22] (mw_U s) = if xs1 = (nI 210) then mj_exec X d 90 58 [some (.ref 22)] [.ref 22] (mw_U s) else mj_exec X d 90 62 [some (.ref 22)] [.ref 22] (mw_U s) := (mj_q_sipush mw_m90 d90_52 mw_k_sipush_210).trans (mj_q_icmp_ne mw_m90 d90_55 rfl)
theorem b90_58 {X : mj_X} {d : Nat} {s : mw_S}   : mj_exec X d 90 58 [some (.ref 22)] [.ref 22] (mw_U s) = mj_exec X d 90 63 [some (.ref 22)] [.int (nI 1), .ref 22] (mw_U s) := (mj_q_iconst mw_m90 d90_58 mw_k_iconst_1).trans (mj_q_goto mw_m90 d90_59 rfl)
theorem b90_62 {X : mj_X} {d : Nat} {s : mw_S}   : mj_exec X d 90 62 [some (.ref 22)] [.ref 22] (mw_U s) = mj_exec X d 90 63 [some (.ref 22)] [.int (nI 0), .ref 22] (mw_U s) := mj_q_iconst mw_m90 d90_62 mw_k_iconst_0
theorem b90_63 {X : mj_X} {d : Nat} {s : mw_S} {xs1 : Int32}  : mj_exec X (d + 1) 90 63 [some (.ref 22)] [.int xs1, .ref 22] (mw_U s) = (mj_call X d 91 [.ref 22, .int xs1] (mw_U s)).bind (mj_bk X (d + 1) 90 66 [some (.ref 22)] []) := mw_q_callv mw_m90 rfl d90_63 mw_p5_68 mw_m91 rfl rfl (Nat.le_of_ble_eq_true rfl) (Nat.le_of_ble_eq_true rfl) rfl (mw_rcv mw_c_22) rfl rfl
theorem b90_66 {X : mj_X} {d : Nat} {s : mw_S} {xs0 : Int32}  : mj_exec X d 90 66 [some (.ref 22)] [.int xs0] (mw_U s) = if mj_rfit (some .boolean) xs0 = true then some (.inl (some (.int xs0)), mw_U s) else none := mw_h_iret mw_m90 d90_66 rfl
theorem b90_67 {X : mj_X} {d : Nat} {s : mw_S}   : mj_exec X (d + 1) 90 67 [some (.ref 22)] [] (mw_U s) = (mj_call X d 94 [.ref 22] (mw_U s)).bind (mj_bk X (d + 1) 90 71 [some (.ref 22)] []) := (mj_q_aload_n mw_m90 d90_67 rfl (by decide)).trans (mw_q_callv mw_m90 rfl d90_68 mw_p5_72 mw_m94 rfl rfl (Nat.le_of_ble_eq_true rfl) (Nat.le_of_ble_eq_true rfl) rfl (mw_rcv mw_c_22) rfl rfl)
theorem b90_71 {X : mj_X} {d : Nat} {s : mw_S} {xs0 : Int32}  : mj_exec X d 90 71 [some (.ref 22)] [.int xs0] (mw_U s) = if mj_rfit (some .boolean) xs0 = true then some (.inl (some (.int xs0)), mw_U s) else none := mw_h_iret mw_m90 d90_71 rfl
theorem b90_72 {X : mj_X} {d : Nat} {s : mw_S}   : mj_exec X (d + 1) 90 72 [some (.ref 22)] [] (mw_U s) = (mj_call X d 96 [.ref 22] (mw_U s)).bind (mj_bk X (d + 1) 90 76 [some (.ref 22)] []) := (mj_q_aload_n mw_m90 d90_72 rfl (by decide)).trans (mw_q_callv mw_m90 rfl d90_73 mw_p5_75 mw_m96 rfl rfl (Nat.le_of_ble_eq_true rfl) (Nat.le_of_ble_eq_true rfl) rfl (mw_rcv mw_c_22) rfl rfl)
theorem b90_76 {X : mj_X} {d : Nat} {s : mw_S} {xs0 : Int32}  : mj_exec X d 90 76 [some (.ref 22)] [.int xs0] (mw_U s) = if mj_rfit (some .boolean) xs0 = true then some (.inl (some (.int xs0)), mw_U s) else none := mw_h_iret mw_m90 d90_76 rfl
theorem b90_77 {X : mj_X} {d : Nat} {s : mw_S}   : mj_exec X (d + 1) 90 77 [some (.ref 22)] [] (mw_U s) = (mj_call X d 97 [.ref 22] (mw_U s)).bind (mj_bk X (d + 1) 90 81 [some (.ref 22)] []) := (mj_q_aload_n mw_m90 d90_77 rfl (by decide)).trans (mw_q_callv mw_m90 rfl d90_78 mw_p5_78 mw_m97 rfl rfl (Nat.le_of_ble_eq_true rfl) (Nat.le_of_ble_eq_true rfl) rfl (mw_rcv mw_c_22) rfl rfl)
theorem b90_81 {X : mj_X} {d : Nat} {s : mw_S} {xs0 : Int32}  : mj_exec X d 90 81 [some (.ref 22)] [.int xs0] (mw_U s) = if mj_rfit (some .boolean) xs0 = true then some (.inl (some (.int xs0)), mw_U s) else none := mw_h_iret mw_m90 d90_81 rfl
theorem b90_82 {X : mj_X} {d : Nat} {s : mw_S}   : mj_exec X (d + 1) 90 82 [some (.ref 22)] [] (mw_U s) = (mj_call X d 105 [.ref 22] (mw_U s)).bind (mj_bk X (d + 1) 90 86 [some (.ref 22)] []) := (mj_q_aload_n mw_m90 d90_82 rfl (by decide)).trans (mw_q_callv mw_m90 rfl d90_83 mw_p5_81 mw_m105 rfl rfl (Nat.le_of_ble_eq_true rfl) (Nat.le_of_ble_eq_true rfl) rfl (mw_rcv mw_c_22) rfl rfl)
theorem b90_86 {X : mj_X} {d : Nat} {s : mw_S} {xs0 : Int32}  : mj_exec X d 90 86 [some (.ref 22)] [.int xs0] (mw_U s) = if mj_rfit (some .boolean) xs0 = true then some (.inl (some (.int xs0)), mw_U s) else none := mw_h_iret mw_m90 d90_86 rfl
theorem b90_87 {X : mj_X} {d : Nat} {s : mw_S}   : mj_exec X (d + 1) 90 87 [some (.ref 22)] [] (mw_U s) = (mj_call X d 92 [.ref 22, .int (nI 1)] (mw_U s)).bind (mj_bk X (d + 1) 90 92 [some (.ref 22)] []) := (mj_q_aload_n mw_m90 d90_87 rfl (by decide)).trans ((mj_q_iconst mw_m90 d90_88 mw_k_iconst_1).trans (mw_q_callv mw_m90 rfl d90_89 mw_p5_62 mw_m92 rfl rfl (Nat.le_of_ble_eq_true rfl) (Nat.le_of_ble_eq_true rfl) rfl (mw_rcv mw_c_22) rfl rfl))
theorem b90_92 {X : mj_X} {d : Nat} {s : mw_S} {xs0 : Int32}  : mj_exec X d 90 92 [some (.ref 22)] [.int xs0] (mw_U s) = if mj_rfit (some .boolean) xs0 = true then some (.inl (some (.int xs0)), mw_U s) else none := mw_h_iret mw_m90 d90_92 rfl
/-- WivesQuarrels$Reader.readPerson -/
theorem d91_0 : decode prog_8_method_11_code 0 = .ok (.aload_n 0, 1) := by decide +kernel
theorem d91_1 : decode prog_8_method_11_code 1 = .ok (.getfield 21, 3) := by decide +kernel
theorem d91_4 : decode prog_8_method_11_code 4 = .ok (.invokevirtual 90, 3) := by decide +kernel
theorem d91_7 : decode prog_8_method_11_code 7 = .ok (.bipush 8, 2) := by decide +kernel
theorem d91_9 : decode prog_8_method_11_code 9 = .ok (.if_icmp .lt 9, 3) := by decide +kernel
theorem d91_12 : decode prog_8_method_11_code 12 = .ok (.aload_n 0, 1) := by decide +kernel
theorem d91_13 : decode prog_8_method_11_code 13 = .ok (.iconst 2, 1) := by decide +kernel
theorem d91_14 : decode prog_8_method_11_code 14 = .ok (.invokevirtual 62, 3) := by decide +kernel
theorem d91_17 : decode prog_8_method_11_code 17 = .ok (.ireturn, 1) := by decide +kernel
theorem d91_18 : decode prog_8_method_11_code 18 = .ok (.aload_n 0, 1) := by decide +kernel
theorem d91_19 : decode prog_8_method_11_code 19 = .ok (.getfield 12, 3) := by decide +kernel
theorem d91_22 : decode prog_8_method_11_code 22 = .ok (.invokevirtual 65, 3) := by decide +kernel
theorem d91_25 : decode prog_8_method_11_code 25 = .ok (.aload_n 0, 1) := by decide +kernel
theorem d91_26 : decode prog_8_method_11_code 26 = .ok (.iconst 0, 1) := by decide +kernel
theorem d91_27 : decode prog_8_method_11_code 27 = .ok (.bipush 9, 2) := by decide +kernel
theorem d91_29 : decode prog_8_method_11_code 29 = .ok (.invokevirtual 93, 3) := by decide +kernel
theorem d91_32 : decode prog_8_method_11_code 32 = .ok (.istore_n 2, 1) := by decide +kernel
theorem d91_33 : decode prog_8_method_11_code 33 = .ok (.iload_n 2, 1) := by decide +kernel
theorem d91_34 : decode prog_8_method_11_code 34 = .ok (.iconst (-1), 1) := by decide +kernel
theorem d91_35 : decode prog_8_method_11_code 35 = .ok (.if_icmp .ne 5, 3) := by decide +kernel
theorem d91_38 : decode prog_8_method_11_code 38 = .ok (.iconst 0, 1) := by decide +kernel
theorem d91_39 : decode prog_8_method_11_code 39 = .ok (.ireturn, 1) := by decide +kernel
theorem d91_40 : decode prog_8_method_11_code 40 = .ok (.aload_n 0, 1) := by decide +kernel
theorem d91_41 : decode prog_8_method_11_code 41 = .ok (.iconst 0, 1) := by decide +kernel
theorem d91_42 : decode prog_8_method_11_code 42 = .ok (.sipush 1023, 3) := by decide +kernel
theorem d91_45 : decode prog_8_method_11_code 45 = .ok (.invokevirtual 93, 3) := by decide +kernel
theorem d91_48 : decode prog_8_method_11_code 48 = .ok (.istore_n 3, 1) := by decide +kernel
theorem d91_49 : decode prog_8_method_11_code 49 = .ok (.iload_n 3, 1) := by decide +kernel
theorem d91_50 : decode prog_8_method_11_code 50 = .ok (.iconst (-1), 1) := by decide +kernel
theorem d91_51 : decode prog_8_method_11_code 51 = .ok (.if_icmp .ne 5, 3) := by decide +kernel
theorem d91_54 : decode prog_8_method_11_code 54 = .ok (.iconst 0, 1) := by decide +kernel
theorem d91_55 : decode prog_8_method_11_code 55 = .ok (.ireturn, 1) := by decide +kernel
theorem d91_56 : decode prog_8_method_11_code 56 = .ok (.aload_n 0, 1) := by decide +kernel
theorem d91_57 : decode prog_8_method_11_code 57 = .ok (.getfield 21, 3) := by decide +kernel
theorem d91_60 : decode prog_8_method_11_code 60 = .ok (.iload_n 2, 1) := by decide +kernel
theorem d91_61 : decode prog_8_method_11_code 61 = .ok (.iload_n 3, 1) := by decide +kernel
theorem d91_62 : decode prog_8_method_11_code 62 = .ok (.iload_n 1, 1) := by decide +kernel
theorem d91_63 : decode prog_8_method_11_code 63 = .ok (.invokevirtual 97, 3) := by decide +kernel
theorem d91_66 : decode prog_8_method_11_code 66 = .ok (.iconst 1, 1) := by decide +kernel
theorem d91_67 : decode prog_8_method_11_code 67 = .ok (.ireturn, 1) := by decide +kernel
theorem b91 {X : mj_X} {d : Nat} {w : mj_W} {x0 : Nat} {x1 : Int32} : mj_call X d 91 [.ref x0, .int x1] w = mj_exec X d 91 0 [some (.ref x0), some (.int x1), none, none] [] w := mw_ent mw_m91 (Nat.le_of_ble_eq_true rfl) rfl
theorem b91_0 {X : mj_X} {d : Nat} {s : mw_S} {x1 : Int32} {l2 : Option Value} {l3 : Option Value}  : mj_exec X (d + 1) 91 0 [some (.ref 22), some (.int x1), l2, l3] [] (mw_U s) = (mj_call X d 61 [.ref 25] (mw_U s)).bind (mj_bk X (d + 1) 91 7 [some (.ref 22), some (.int x1), l2, l3] []) := (mj_q_aload_n mw_m91 d91_0 rfl (by decide)).trans ((mw_q_getr mw_m91 d91_1 mw_p5_21 mw_c_22 mw_f_22_1).trans (mw_q_callv mw_m91 rfl d91_4 mw_p5_90 mw_m61 rfl rfl (Nat.le_of_ble_eq_true rfl) (Nat.le_of_ble_eq_true rfl) rfl (mw_rcv mw_c_25) rfl rfl))
theorem b91_7 {X : mj_X} {d : Nat} {s : mw_S} {x1 : Int32} {l2 : Option Value} {l3 : Option Value} {xs0 : Int32}  : mj_exec X d 91 7 [some (.ref 22), some (.int x1), l2, l3] [.int xs0] (mw_U s) = if xs0 < (nI 8) then mj_exec X d 91 18 [some (.ref 22), some (.int x1), l2, l3] [] (mw_U s) else mj_exec X d 91 12 [some (.ref 22), some (.int x1), l2, l3] [] (mw_U s) := (mj_q_bipush mw_m91 d91_7 mw_k_bipush_8).trans (mj_q_icmp_lt mw_m91 d91_9 rfl)
theorem b91_12 {X : mj_X} {d : Nat} {s : mw_S} {x1 : Int32} {l2 : Option Value} {l3 : Option Value}  : mj_exec X (d + 1) 91 12 [some (.ref 22), some (.int x1), l2, l3] [] (mw_U s) = (mj_call X d 92 [.ref 22, .int (nI 2)] (mw_U s)).bind (mj_bk X (d + 1) 91 17 [some (.ref 22), some (.int x1), l2, l3] []) := (mj_q_aload_n mw_m91 d91_12 rfl (by decide)).trans ((mj_q_iconst mw_m91 d91_13 mw_k_iconst_2).trans (mw_q_callv mw_m91 rfl d91_14 mw_p5_62 mw_m92 rfl rfl (Nat.le_of_ble_eq_true rfl) (Nat.le_of_ble_eq_true rfl) rfl (mw_rcv mw_c_22) rfl rfl))
theorem b91_17 {X : mj_X} {d : Nat} {s : mw_S} {x1 : Int32} {l2 : Option Value} {l3 : Option Value} {xs0 : Int32}  : mj_exec X d 91 17 [some (.ref 22), some (.int x1), l2, l3] [.int xs0] (mw_U s) = if mj_rfit (some .boolean) xs0 = true then some (.inl (some (.int xs0)), mw_U s) else none := mw_h_iret mw_m91 d91_17 rfl
theorem b91_18 {X : mj_X} {d : Nat} {s : mw_S} {x1 : Int32} {l2 : Option Value} {l3 : Option Value}  : mj_exec X (d + 1) 91 18 [some (.ref 22), some (.int x1), l2, l3] [] (mw_U s) = (mj_call X d 131 [.ref 23] (mw_U s)).bind (mj_bk X (d + 1) 91 25 [some (.ref 22), some (.int x1), l2, l3] []) := (mj_q_aload_n mw_m91 d91_18 rfl (by decide)).trans ((mw_q_getr mw_m91 d91_19 mw_p5_12 mw_c_22 mw_f_22_0).trans (mw_q_callv mw_m91 rfl d91_22 mw_p5_65 mw_m131 rfl rfl (Nat.le_of_ble_eq_true rfl) (Nat.le_of_ble_eq_true rfl) rfl (mw_rcv mw_c_23) rfl rfl))
theorem b91_25 {X : mj_X} {d : Nat} {s : mw_S} {x1 : Int32} {l2 : Option Value} {l3 : Option Value}  : mj_exec X (d + 1) 91 25 [some (.ref 22), some (.int x1), l2, l3] [] (mw_U s) = (mj_call X d 93 [.ref 22, .int (nI 0), .int (nI 9)] (mw_U s)).bind (mj_bk X (d + 1) 91 32 [some (.ref 22), some (.int x1), l2, l3] []) := (mj_q_aload_n mw_m91 d91_25 rfl (by decide)).trans ((mj_q_iconst mw_m91 d91_26 mw_k_iconst_0).trans ((mj_q_bipush mw_m91 d91_27 mw_k_bipush_9).trans (mw_q_callv mw_m91 rfl d91_29 mw_p5_93 mw_m93 rfl rfl (Nat.le_of_ble_eq_true rfl) (Nat.le_of_ble_eq_true rfl) rfl (mw_rcv mw_c_22) rfl rfl)))
theorem b91_32 {X : mj_X} {d : Nat} {s : mw_S} {x1 : Int32} {l2 : Option Value} {l3 : Option Value} {xs0 : Int32}  : mj_exec X d 91 32 [some (.ref 22), some (.int x1), l2, l3] [.int xs0] (mw_U s) = if xs0 = (-1) then mj_exec X d 91 38 [some (.ref 22), some (.int x1), some (.int xs0), l3] [] (mw_U s) else mj_exec X d 91 40 [some (.ref 22), some (.int x1), some (.int xs0), l3] [] (mw_U s) := (mj_q_istore_n mw_m91 d91_32 (Nat.le_of_ble_eq_true rfl) rfl rfl).trans ((mj_q_iload_n mw_m91 d91_33 rfl).trans ((mj_q_iconst mw_m91 d91_34 mw_k_iconst_m1).trans (mj_q_icmp_ne mw_m91 d91_35 rfl)))
theorem b91_38 {X : mj_X} {d : Nat} {s : mw_S} {x1 : Int32} {x2 : Int32} {l3 : Option Value}  : mj_exec X d 91 38 [some (.ref 22), some (.int x1), some (.int x2), l3] [] (mw_U s) = some (.inl (some (.int (nI 0))), mw_U s) := (mj_q_iconst mw_m91 d91_38 mw_k_iconst_0).trans (mj_q_iret mw_m91 d91_39 (by decide))
theorem b91_40 {X : mj_X} {d : Nat} {s : mw_S} {x1 : Int32} {x2 : Int32} {l3 : Option Value}  : mj_exec X (d + 1) 91 40 [some (.ref 22), some (.int x1), some (.int x2), l3] [] (mw_U s) = (mj_call X d 93 [.ref 22, .int (nI 0), .int (nI 1023)] (mw_U s)).bind (mj_bk X (d + 1) 91 48 [some (.ref 22), some (.int x1), some (.int x2), l3] []) := (mj_q_aload_n mw_m91 d91_40 rfl (by decide)).trans ((mj_q_iconst mw_m91 d91_41 mw_k_iconst_0).trans ((mj_q_sipush mw_m91 d91_42 mw_k_sipush_1023).trans (mw_q_callv mw_m91 rfl d91_45 mw_p5_93 mw_m93 rfl rfl (Nat.le_of_ble_eq_true rfl) (Nat.le_of_ble_eq_true rfl) rfl (mw_rcv mw_c_22) rfl rfl)))
theorem b91_48 {X : mj_X} {d : Nat} {s : mw_S} {x1 : Int32} {x2 : Int32} {l3 : Option Value} {xs0 : Int32}  : mj_exec X d 91 48 [some (.ref 22), some (.int x1), some (.int x2), l3] [.int xs0] (mw_U s) = if xs0 = (-1) then mj_exec X d 91 54 [some (.ref 22), some (.int x1), some (.int x2), some (.int xs0)] [] (mw_U s) else mj_exec X d 91 56 [some (.ref 22), some (.int x1), some (.int x2), some (.int xs0)] [] (mw_U s) := (mj_q_istore_n mw_m91 d91_48 (Nat.le_of_ble_eq_true rfl) rfl rfl).trans ((mj_q_iload_n mw_m91 d91_49 rfl).trans ((mj_q_iconst mw_m91 d91_50 mw_k_iconst_m1).trans (mj_q_icmp_ne mw_m91 d91_51 rfl)))
theorem b91_54 {X : mj_X} {d : Nat} {s : mw_S} {x1 : Int32} {x2 : Int32} {x3 : Int32}  : mj_exec X d 91 54 [some (.ref 22), some (.int x1), some (.int x2), some (.int x3)] [] (mw_U s) = some (.inl (some (.int (nI 0))), mw_U s) := (mj_q_iconst mw_m91 d91_54 mw_k_iconst_0).trans (mj_q_iret mw_m91 d91_55 (by decide))
theorem b91_56 {X : mj_X} {d : Nat} {s : mw_S} {x1 : Int32} {x2 : Int32} {x3 : Int32}  : mj_exec X (d + 1) 91 56 [some (.ref 22), some (.int x1), some (.int x2), some (.int x3)] [] (mw_U s) = (mj_call X d 62 [.ref 25, .int x2, .int x3, .int x1] (mw_U s)).bind (mj_bk X (d + 1) 91 66 [some (.ref 22), some (.int x1), some (.int x2), some (.int x3)] []) := (mj_q_aload_n mw_m91 d91_56 rfl (by decide)).trans ((mw_q_getr mw_m91 d91_57 mw_p5_21 mw_c_22 mw_f_22_1).trans ((mj_q_iload_n mw_m91 d91_60 rfl).trans ((mj_q_iload_n mw_m91 d91_61 rfl).trans ((mj_q_iload_n mw_m91 d91_62 rfl).trans (mw_q_callv mw_m91 rfl d91_63 mw_p5_97 mw_m62 rfl rfl (Nat.le_of_ble_eq_true rfl) (Nat.le_of_ble_eq_true rfl) rfl (mw_rcv mw_c_25) rfl rfl)))))
theorem b91_66 {X : mj_X} {d : Nat} {s : mw_S} {x1 : Int32} {x2 : Int32} {x3 : Int32}  : mj_exec X d 91 66 [some (.ref 22), some (.int x1), some (.int x2), some (.int x3)] [] (mw_U s) = some (.inl (some (.int (nI 1))), mw_U s) := (mj_q_iconst mw_m91 d91_66 mw_k_iconst_1).trans (mj_q_iret mw_m91 d91_67 (by decide))
/-- WivesQuarrels$Reader.refuse -/
theorem d92_0 : decode prog_8_method_7_code 0 = .ok (.aload_n 0, 1) := by decide +kernel
theorem d92_1 : decode prog_8_method_7_code 1 = .ok (.iload_n 1, 1) := by decide +kernel
theorem d92_2 : decode prog_8_method_7_code 2 = .ok (.putfield 32, 3) := by decide +kernel
theorem d92_5 : decode prog_8_method_7_code 5 = .ok (.aload_n 0, 1) := by decide +kernel
theorem d92_6 : decode prog_8_method_7_code 6 = .ok (.aload_n 0, 1) := by decide +kernel
theorem d92_7 : decode prog_8_method_7_code 7 = .ok (.getfield 12, 3) := by decide +kernel
theorem d92_10 : decode prog_8_method_7_code 10 = .ok (.invokevirtual 59, 3) := by decide +kernel
theorem d92_13 : decode prog_8_method_7_code 13 = .ok (.putfield 36, 3) := by decide +kernel
theorem d92_16 : decode prog_8_method_7_code 16 = .ok (.iconst 0, 1) := by decide +kernel
theorem d92_17 : decode prog_8_method_7_code 17 = .ok (.ireturn, 1) := by decide +kernel
theorem b92 {X : mj_X} {d : Nat} {w : mj_W} {x0 : Nat} {x1 : Int32} : mj_call X d 92 [.ref x0, .int x1] w = mj_exec X d 92 0 [some (.ref x0), some (.int x1)] [] w := mw_ent mw_m92 (Nat.le_of_ble_eq_true rfl) rfl
theorem b92_0 {X : mj_X} {d : Nat} {s : mw_S} {x1 : Int32}  : mj_exec X (d + 1) 92 0 [some (.ref 22), some (.int x1)] [] (mw_U s) = (mj_call X d 136 [.ref 23] (mw_U (mw_p s 22 3 x1))).bind (mj_bk X (d + 1) 92 13 [some (.ref 22), some (.int x1)] [.ref 22]) := (mj_q_aload_n mw_m92 d92_0 rfl (by decide)).trans ((mj_q_iload_n mw_m92 d92_1 rfl).trans ((mw_q_puti mw_m92 d92_2 mw_p5_32 mw_c_22 mw_f_22_3 (by decide) rfl (.inl rfl)).trans ((mj_q_aload_n mw_m92 d92_5 rfl (by decide)).trans ((mj_q_aload_n mw_m92 d92_6 rfl (by decide)).trans ((mw_q_getr mw_m92 d92_7 mw_p5_12 mw_c_22 mw_f_22_0).trans (mw_q_callv mw_m92 rfl d92_10 mw_p5_59 mw_m136 rfl rfl (Nat.le_of_ble_eq_true rfl) (Nat.le_of_ble_eq_true rfl) rfl (mw_rcv mw_c_23) rfl rfl))))))
theorem b92_13 {X : mj_X} {d : Nat} {s : mw_S} {x1 : Int32} {xs1 : Int32}  : mj_exec X d 92 13 [some (.ref 22), some (.int x1)] [.int xs1, .ref 22] (mw_U s) = some (.inl (some (.int (nI 0))), mw_U (mw_p s 22 4 xs1)) := (mw_q_puti mw_m92 d92_13 mw_p5_36 mw_c_22 mw_f_22_4 (by decide) rfl (.inl rfl)).trans ((mj_q_iconst mw_m92 d92_16 mw_k_iconst_0).trans (mj_q_iret mw_m92 d92_17 (by decide)))
/-- WivesQuarrels$Reader.takeNumber -/
theorem d93_0 : decode prog_8_method_10_code 0 = .ok (.aload_n 0, 1) := by decide +kernel
theorem d93_1 : decode prog_8_method_10_code 1 = .ok (.getfield 12, 3) := by decide +kernel
theorem d93_4 : decode prog_8_method_10_code 4 = .ok (.invokevirtual 47, 3) := by decide +kernel
theorem d93_7 : decode prog_8_method_10_code 7 = .ok (.iconst 2, 1) := by decide +kernel
theorem d93_8 : decode prog_8_method_10_code 8 = .ok (.if_icmp .eq 11, 3) := by decide +kernel
theorem d93_11 : decode prog_8_method_10_code 11 = .ok (.aload_n 0, 1) := by decide +kernel
theorem d93_12 : decode prog_8_method_10_code 12 = .ok (.iconst 1, 1) := by decide +kernel
theorem d93_13 : decode prog_8_method_10_code 13 = .ok (.invokevirtual 62, 3) := by decide +kernel
theorem d93_16 : decode prog_8_method_10_code 16 = .ok (.pop, 1) := by decide +kernel
theorem d93_17 : decode prog_8_method_10_code 17 = .ok (.iconst (-1), 1) := by decide +kernel
theorem d93_18 : decode prog_8_method_10_code 18 = .ok (.ireturn, 1) := by decide +kernel
theorem d93_19 : decode prog_8_method_10_code 19 = .ok (.aload_n 0, 1) := by decide +kernel
theorem d93_20 : decode prog_8_method_10_code 20 = .ok (.getfield 12, 3) := by decide +kernel
theorem d93_23 : decode prog_8_method_10_code 23 = .ok (.invokevirtual 84, 3) := by decide +kernel
theorem d93_26 : decode prog_8_method_10_code 26 = .ok (.istore_n 3, 1) := by decide +kernel
theorem d93_27 : decode prog_8_method_10_code 27 = .ok (.aload_n 0, 1) := by decide +kernel
theorem d93_28 : decode prog_8_method_10_code 28 = .ok (.getfield 12, 3) := by decide +kernel
theorem d93_31 : decode prog_8_method_10_code 31 = .ok (.invokevirtual 87, 3) := by decide +kernel
theorem d93_34 : decode prog_8_method_10_code 34 = .ok (.ifCond .ne 13, 3) := by decide +kernel
theorem d93_37 : decode prog_8_method_10_code 37 = .ok (.iload_n 3, 1) := by decide +kernel
theorem d93_38 : decode prog_8_method_10_code 38 = .ok (.iload_n 1, 1) := by decide +kernel
theorem d93_39 : decode prog_8_method_10_code 39 = .ok (.if_icmp .lt 8, 3) := by decide +kernel
theorem d93_42 : decode prog_8_method_10_code 42 = .ok (.iload_n 3, 1) := by decide +kernel
theorem d93_43 : decode prog_8_method_10_code 43 = .ok (.iload_n 2, 1) := by decide +kernel
theorem d93_44 : decode prog_8_method_10_code 44 = .ok (.if_icmp .le 11, 3) := by decide +kernel
theorem d93_47 : decode prog_8_method_10_code 47 = .ok (.aload_n 0, 1) := by decide +kernel
theorem d93_48 : decode prog_8_method_10_code 48 = .ok (.iconst 2, 1) := by decide +kernel
theorem d93_49 : decode prog_8_method_10_code 49 = .ok (.invokevirtual 62, 3) := by decide +kernel
theorem d93_52 : decode prog_8_method_10_code 52 = .ok (.pop, 1) := by decide +kernel
theorem d93_53 : decode prog_8_method_10_code 53 = .ok (.iconst (-1), 1) := by decide +kernel
theorem d93_54 : decode prog_8_method_10_code 54 = .ok (.ireturn, 1) := by decide +kernel
theorem d93_55 : decode prog_8_method_10_code 55 = .ok (.aload_n 0, 1) := by decide +kernel
theorem d93_56 : decode prog_8_method_10_code 56 = .ok (.getfield 12, 3) := by decide +kernel
theorem d93_59 : decode prog_8_method_10_code 59 = .ok (.invokevirtual 65, 3) := by decide +kernel
theorem d93_62 : decode prog_8_method_10_code 62 = .ok (.iload_n 3, 1) := by decide +kernel
theorem d93_63 : decode prog_8_method_10_code 63 = .ok (.ireturn, 1) := by decide +kernel
theorem b93 {X : mj_X} {d : Nat} {w : mj_W} {x0 : Nat} {x1 : Int32} {x2 : Int32} : mj_call X d 93 [.ref x0, .int x1, .int x2] w = mj_exec X d 93 0 [some (.ref x0), some (.int x1), some (.int x2), none] [] w := mw_ent mw_m93 (Nat.le_of_ble_eq_true rfl) rfl
theorem b93_0 {X : mj_X} {d : Nat} {s : mw_S} {x1 : Int32} {x2 : Int32} {l3 : Option Value}  : mj_exec X (d + 1) 93 0 [some (.ref 22), some (.int x1), some (.int x2), l3] [] (mw_U s) = (mj_call X d 135 [.ref 23] (mw_U s)).bind (mj_bk X (d + 1) 93 7 [some (.ref 22), some (.int x1), some (.int x2), l3] []) := (mj_q_aload_n mw_m93 d93_0 rfl (by decide)).trans ((mw_q_getr mw_m93 d93_1 mw_p5_12 mw_c_22 mw_f_22_0).trans (mw_q_callv mw_m93 rfl d93_4 mw_p5_47 mw_m135 rfl rfl (Nat.le_of_ble_eq_true rfl) (Nat.le_of_ble_eq_true rfl) rfl (mw_rcv mw_c_23) rfl rfl))
theorem b93_7 {X : mj_X} {d : Nat} {s : mw_S} {x1 : Int32} {x2 : Int32} {l3 : Option Value} {xs0 : Int32}  : mj_exec X d 93 7 [some (.ref 22), some (.int x1), some (.int x2), l3] [.int xs0] (mw_U s) = if xs0 = (nI 2) then mj_exec X d 93 19 [some (.ref 22), some (.int x1), some (.int x2), l3] [] (mw_U s) else mj_exec X d 93 11 [some (.ref 22), some (.int x1), some (.int x2), l3] [] (mw_U s) := (mj_q_iconst mw_m93 d93_7 mw_k_iconst_2).trans (mj_q_icmp_eq mw_m93 d93_8 rfl)
theorem b93_11 {X : mj_X} {d : Nat} {s : mw_S} {x1 : Int32} {x2 : Int32} {l3 : Option Value}  : mj_exec X (d + 1) 93 11 [some (.ref 22), some (.int x1), some (.int x2), l3] [] (mw_U s) = (mj_call X d 92 [.ref 22, .int (nI 1)] (mw_U s)).bind (mj_bk X (d + 1) 93 16 [some (.ref 22), some (.int x1), some (.int x2), l3] []) := (mj_q_aload_n mw_m93 d93_11 rfl (by decide)).trans ((mj_q_iconst mw_m93 d93_12 mw_k_iconst_1).trans (mw_q_callv mw_m93 rfl d93_13 mw_p5_62 mw_m92 rfl rfl (Nat.le_of_ble_eq_true rfl) (Nat.le_of_ble_eq_true rfl) rfl (mw_rcv mw_c_22) rfl rfl))
theorem b93_16 {X : mj_X} {d : Nat} {s : mw_S} {x1 : Int32} {x2 : Int32} {l3 : Option Value} {xs0 : Int32}  : mj_exec X d 93 16 [some (.ref 22), some (.int x1), some (.int x2), l3] [.int xs0] (mw_U s) = some (.inl (some (.int (-1))), mw_U s) := (mj_q_pop mw_m93 d93_16 rfl).trans ((mj_q_iconst mw_m93 d93_17 mw_k_iconst_m1).trans (mj_q_iret mw_m93 d93_18 rfl))
theorem b93_19 {X : mj_X} {d : Nat} {s : mw_S} {x1 : Int32} {x2 : Int32} {l3 : Option Value}  : mj_exec X (d + 1) 93 19 [some (.ref 22), some (.int x1), some (.int x2), l3] [] (mw_U s) = (mj_call X d 137 [.ref 23] (mw_U s)).bind (mj_bk X (d + 1) 93 26 [some (.ref 22), some (.int x1), some (.int x2), l3] []) := (mj_q_aload_n mw_m93 d93_19 rfl (by decide)).trans ((mw_q_getr mw_m93 d93_20 mw_p5_12 mw_c_22 mw_f_22_0).trans (mw_q_callv mw_m93 rfl d93_23 mw_p5_84 mw_m137 rfl rfl (Nat.le_of_ble_eq_true rfl) (Nat.le_of_ble_eq_true rfl) rfl (mw_rcv mw_c_23) rfl rfl))
theorem b93_26 {X : mj_X} {d : Nat} {s : mw_S} {x1 : Int32} {x2 : Int32} {l3 : Option Value} {xs0 : Int32}  : mj_exec X (d + 1) 93 26 [some (.ref 22), some (.int x1), some (.int x2), l3] [.int xs0] (mw_U s) = (mj_call X d 138 [.ref 23] (mw_U s)).bind (mj_bk X (d + 1) 93 34 [some (.ref 22), some (.int x1), some (.int x2), some (.int xs0)] []) := (mj_q_istore_n mw_m93 d93_26 (Nat.le_of_ble_eq_true rfl) rfl rfl).trans ((mj_q_aload_n mw_m93 d93_27 rfl (by decide)).trans ((mw_q_getr mw_m93 d93_28 mw_p5_12 mw_c_22 mw_f_22_0).trans (mw_q_callv mw_m93 rfl d93_31 mw_p5_87 mw_m138 rfl rfl (Nat.le_of_ble_eq_true rfl) (Nat.le_of_ble_eq_true rfl) rfl (mw_rcv mw_c_23) rfl rfl)))
theorem b93_34 {X : mj_X} {d : Nat} {s : mw_S} {x1 : Int32} {x2 : Int32} {x3 : Int32} {xs0 : Int32}  : mj_exec X d 93 34 [some (.ref 22), some (.int x1), some (.int x2), some (.int x3)] [.int xs0] (mw_U s) = if xs0 = 0 then mj_exec X d 93 37 [some (.ref 22), some (.int x1), some (.int x2), some (.int x3)] [] (mw_U s) else mj_exec X d 93 47 [some (.ref 22), some (.int x1), some (.int x2), some (.int x3)] [] (mw_U s) := mj_q_if_ne mw_m93 d93_34 rfl
theorem b93_37 {X : mj_X} {d : Nat} {s : mw_S} {x1 : Int32} {x2 : Int32} {x3 : Int32}  : mj_exec X d 93 37 [some (.ref 22), some (.int x1), some (.int x2), some (.int x3)] [] (mw_U s) = if x3 < x1 then mj_exec X d 93 47 [some (.ref 22), some (.int x1), some (.int x2), some (.int x3)] [] (mw_U s) else mj_exec X d 93 42 [some (.ref 22), some (.int x1), some (.int x2), some (.int x3)] [] (mw_U s) := (mj_q_iload_n mw_m93 d93_37 rfl).trans ((mj_q_iload_n mw_m93 d93_38 rfl).trans (mj_q_icmp_lt mw_m93 d93_39 rfl))
theorem b93_42 {X : mj_X} {d : Nat} {s : mw_S} {x1 : Int32} {x2 : Int32} {x3 : Int32}  : mj_exec X d 93 42 [some (.ref 22), some (.int x1), some (.int x2), some (.int x3)] [] (mw_U s) = if x3 ≤ x2 then mj_exec X d 93 55 [some (.ref 22), some (.int x1), some (.int x2), some (.int x3)] [] (mw_U s) else mj_exec X d 93 47 [some (.ref 22), some (.int x1), some (.int x2), some (.int x3)] [] (mw_U s) := (mj_q_iload_n mw_m93 d93_42 rfl).trans ((mj_q_iload_n mw_m93 d93_43 rfl).trans (mj_q_icmp_le mw_m93 d93_44 rfl))
theorem b93_47 {X : mj_X} {d : Nat} {s : mw_S} {x1 : Int32} {x2 : Int32} {x3 : Int32}  : mj_exec X (d + 1) 93 47 [some (.ref 22), some (.int x1), some (.int x2), some (.int x3)] [] (mw_U s) = (mj_call X d 92 [.ref 22, .int (nI 2)] (mw_U s)).bind (mj_bk X (d + 1) 93 52 [some (.ref 22), some (.int x1), some (.int x2), some (.int x3)] []) := (mj_q_aload_n mw_m93 d93_47 rfl (by decide)).trans ((mj_q_iconst mw_m93 d93_48 mw_k_iconst_2).trans (mw_q_callv mw_m93 rfl d93_49 mw_p5_62 mw_m92 rfl rfl (Nat.le_of_ble_eq_true rfl) (Nat.le_of_ble_eq_true rfl) rfl (mw_rcv mw_c_22) rfl rfl))
theorem b93_52 {X : mj_X} {d : Nat} {s : mw_S} {x1 : Int32} {x2 : Int32} {x3 : Int32} {xs0 : Int32}  : mj_exec X d 93 52 [some (.ref 22), some (.int x1), some (.int x2), some (.int x3)] [.int xs0] (mw_U s) = some (.inl (some (.int (-1))), mw_U s) := (mj_q_pop mw_m93 d93_52 rfl).trans ((mj_q_iconst mw_m93 d93_53 mw_k_iconst_m1).trans (mj_q_iret mw_m93 d93_54 rfl))
theorem b93_55 {X : mj_X} {d : Nat} {s : mw_S} {x1 : Int32} {x2 : Int32} {x3 : Int32}  : mj_exec X (d + 1) 93 55 [some (.ref 22), some (.int x1), some (.int x2), some (.int x3)] [] (mw_U s) = (mj_call X d 131 [.ref 23] (mw_U s)).bind (mj_bk X (d + 1) 93 62 [some (.ref 22), some (.int x1), some (.int x2), some (.int x3)] []) := (mj_q_aload_n mw_m93 d93_55 rfl (by decide)).trans ((mw_q_getr mw_m93 d93_56 mw_p5_12 mw_c_22 mw_f_22_0).trans (mw_q_callv mw_m93 rfl d93_59 mw_p5_65 mw_m131 rfl rfl (Nat.le_of_ble_eq_true rfl) (Nat.le_of_ble_eq_true rfl) rfl (mw_rcv mw_c_23) rfl rfl))
theorem b93_62 {X : mj_X} {d : Nat} {s : mw_S} {x1 : Int32} {x2 : Int32} {x3 : Int32}  : mj_exec X d 93 62 [some (.ref 22), some (.int x1), some (.int x2), some (.int x3)] [] (mw_U s) = some (.inl (some (.int x3)), mw_U s) := (mj_q_iload_n mw_m93 d93_62 rfl).trans (mj_q_iret mw_m93 d93_63 rfl)
/-- WivesQuarrels$Reader.readWed -/
theorem d94_0 : decode prog_8_method_13_code 0 = .ok (.aload_n 0, 1) := by decide +kernel
theorem d94_1 : decode prog_8_method_13_code 1 = .ok (.getfield 12, 3) := by decide +kernel
theorem d94_4 : decode prog_8_method_13_code 4 = .ok (.invokevirtual 65, 3) := by decide +kernel
theorem d94_7 : decode prog_8_method_13_code 7 = .ok (.aload_n 0, 1) := by decide +kernel
theorem d94_8 : decode prog_8_method_13_code 8 = .ok (.invokevirtual 101, 3) := by decide +kernel
theorem d94_11 : decode prog_8_method_13_code 11 = .ok (.istore_n 1, 1) := by decide +kernel
theorem d94_12 : decode prog_8_method_13_code 12 = .ok (.iload_n 1, 1) := by decide +kernel
theorem d94_13 : decode prog_8_method_13_code 13 = .ok (.iconst (-1), 1) := by decide +kernel
theorem d94_14 : decode prog_8_method_13_code 14 = .ok (.if_icmp .ne 5, 3) := by decide +kernel
theorem d94_17 : decode prog_8_method_13_code 17 = .ok (.iconst 0, 1) := by decide +kernel
theorem d94_18 : decode prog_8_method_13_code 18 = .ok (.ireturn, 1) := by decide +kernel
theorem d94_19 : decode prog_8_method_13_code 19 = .ok (.aload_n 0, 1) := by decide +kernel
theorem d94_20 : decode prog_8_method_13_code 20 = .ok (.getfield 21, 3) := by decide +kernel
theorem d94_23 : decode prog_8_method_13_code 23 = .ok (.iload_n 1, 1) := by decide +kernel
theorem d94_24 : decode prog_8_method_13_code 24 = .ok (.invokevirtual 104, 3) := by decide +kernel
theorem d94_27 : decode prog_8_method_13_code 27 = .ok (.iconst (-1), 1) := by decide +kernel
theorem d94_28 : decode prog_8_method_13_code 28 = .ok (.if_icmp .eq 9, 3) := by decide +kernel
theorem d94_31 : decode prog_8_method_13_code 31 = .ok (.aload_n 0, 1) := by decide +kernel
theorem d94_32 : decode prog_8_method_13_code 32 = .ok (.iconst 4, 1) := by decide +kernel
theorem d94_33 : decode prog_8_method_13_code 33 = .ok (.invokevirtual 62, 3) := by decide +kernel
theorem d94_36 : decode prog_8_method_13_code 36 = .ok (.ireturn, 1) := by decide +kernel
theorem d94_37 : decode prog_8_method_13_code 37 = .ok (.aload_n 0, 1) := by decide +kernel
theorem d94_38 : decode prog_8_method_13_code 38 = .ok (.getfield 12, 3) := by decide +kernel
theorem d94_41 : decode prog_8_method_13_code 41 = .ok (.invokevirtual 65, 3) := by decide +kernel
theorem d94_44 : decode prog_8_method_13_code 44 = .ok (.aload_n 0, 1) := by decide +kernel
theorem d94_45 : decode prog_8_method_13_code 45 = .ok (.invokevirtual 101, 3) := by decide +kernel
theorem d94_48 : decode prog_8_method_13_code 48 = .ok (.istore_n 2, 1) := by decide +kernel
theorem d94_49 : decode prog_8_method_13_code 49 = .ok (.iload_n 2, 1) := by decide +kernel
theorem d94_50 : decode prog_8_method_13_code 50 = .ok (.iconst (-1), 1) := by decide +kernel
theorem d94_51 : decode prog_8_method_13_code 51 = .ok (.if_icmp .ne 5, 3) := by decide +kernel
theorem d94_54 : decode prog_8_method_13_code 54 = .ok (.iconst 0, 1) := by decide +kernel
theorem d94_55 : decode prog_8_method_13_code 55 = .ok (.ireturn, 1) := by decide +kernel
theorem d94_56 : decode prog_8_method_13_code 56 = .ok (.aload_n 0, 1) := by decide +kernel
theorem d94_57 : decode prog_8_method_13_code 57 = .ok (.getfield 21, 3) := by decide +kernel
theorem d94_60 : decode prog_8_method_13_code 60 = .ok (.iload_n 1, 1) := by decide +kernel
theorem d94_61 : decode prog_8_method_13_code 61 = .ok (.iload_n 2, 1) := by decide +kernel
theorem d94_62 : decode prog_8_method_13_code 62 = .ok (.invokevirtual 108, 3) := by decide +kernel
theorem d94_65 : decode prog_8_method_13_code 65 = .ok (.ifCond .ne 9, 3) := by decide +kernel
theorem d94_68 : decode prog_8_method_13_code 68 = .ok (.aload_n 0, 1) := by decide +kernel
theorem d94_69 : decode prog_8_method_13_code 69 = .ok (.iconst 4, 1) := by decide +kernel
theorem d94_70 : decode prog_8_method_13_code 70 = .ok (.invokevirtual 62, 3) := by decide +kernel
theorem d94_73 : decode prog_8_method_13_code 73 = .ok (.ireturn, 1) := by decide +kernel
theorem d94_74 : decode prog_8_method_13_code 74 = .ok (.aload_n 0, 1) := by decide +kernel
theorem d94_75 : decode prog_8_method_13_code 75 = .ok (.getfield 12, 3) := by decide +kernel
theorem d94_78 : decode prog_8_method_13_code 78 = .ok (.invokevirtual 65, 3) := by decide +kernel
theorem d94_81 : decode prog_8_method_13_code 81 = .ok (.aload_n 0, 1) := by decide +kernel
theorem d94_82 : decode prog_8_method_13_code 82 = .ok (.getfield 21, 3) := by decide +kernel
theorem d94_85 : decode prog_8_method_13_code 85 = .ok (.iload_n 1, 1) := by decide +kernel
theorem d94_86 : decode prog_8_method_13_code 86 = .ok (.iload_n 2, 1) := by decide +kernel
theorem d94_87 : decode prog_8_method_13_code 87 = .ok (.invokevirtual 112, 3) := by decide +kernel
theorem d94_90 : decode prog_8_method_13_code 90 = .ok (.iconst 1, 1) := by decide +kernel
theorem d94_91 : decode prog_8_method_13_code 91 = .ok (.ireturn, 1) := by decide +kernel
theorem b94 {X : mj_X} {d : Nat} {w : mj_W} {x0 : Nat} : mj_call X d 94 [.ref x0] w = mj_exec X d 94 0 [some (.ref x0), none, none] [] w := mw_ent mw_m94 (Nat.le_of_ble_eq_true rfl) rfl
theorem b94_0 {X : mj_X} {d : Nat} {s : mw_S} {l1 : Option Value} {l2 : Option Value}  : mj_exec X (d + 1) 94 0 [some (.ref 22), l1, l2] [] (mw_U s) = (mj_call X d 131 [.ref 23] (mw_U s)).bind (mj_bk X (d + 1) 94 7 [some (.ref 22), l1, l2] []) := (mj_q_aload_n mw_m94 d94_0 rfl (by decide)).trans ((mw_q_getr mw_m94 d94_1 mw_p5_12 mw_c_22 mw_f_22_0).trans (mw_q_callv mw_m94 rfl d94_4 mw_p5_65 mw_m131 rfl rfl (Nat.le_of_ble_eq_true rfl) (Nat.le_of_ble_eq_true rfl) rfl (mw_rcv mw_c_23) rfl rfl))
theorem b94_7 {X : mj_X} {d : Nat} {s : mw_S} {l1 : Option Value} {l2 : Option Value}  : mj_exec X (d + 1) 94 7 [some (.ref 22), l1, l2] [] (mw_U s) = (mj_call X d 95 [.ref 22] (mw_U s)).bind (mj_bk X (d + 1) 94 11 [some (.ref 22), l1, l2] []) := (mj_q_aload_n mw_m94 d94_7 rfl (by decide)).trans (mw_q_callv mw_m94 rfl d94_8 mw_p5_101 mw_m95 rfl rfl (Nat.le_of_ble_eq_true rfl) (Nat.le_of_ble_eq_true rfl) rfl (mw_rcv mw_c_22) rfl rfl)
theorem b94_11 {X : mj_X} {d : Nat} {s : mw_S} {l1 : Option Value} {l2 : Option Value} {xs0 : Int32}  : mj_exec X d 94 11 [some (.ref 22), l1, l2] [.int xs0] (mw_U s) = if xs0 = (-1) then mj_exec X d 94 17 [some (.ref 22), some (.int xs0), l2] [] (mw_U s) else mj_exec X d 94 19 [some (.ref 22), some (.int xs0), l2] [] (mw_U s) := (mj_q_istore_n mw_m94 d94_11 (Nat.le_of_ble_eq_true rfl) rfl rfl).trans ((mj_q_iload_n mw_m94 d94_12 rfl).trans ((mj_q_iconst mw_m94 d94_13 mw_k_iconst_m1).trans (mj_q_icmp_ne mw_m94 d94_14 rfl)))
theorem b94_17 {X : mj_X} {d : Nat} {s : mw_S} {x1 : Int32} {l2 : Option Value}  : mj_exec X d 94 17 [some (.ref 22), some (.int x1), l2] [] (mw_U s) = some (.inl (some (.int (nI 0))), mw_U s) := (mj_q_iconst mw_m94 d94_17 mw_k_iconst_0).trans (mj_q_iret mw_m94 d94_18 (by decide))
theorem b94_19 {X : mj_X} {d : Nat} {s : mw_S} {x1 : Int32} {l2 : Option Value}  : mj_exec X (d + 1) 94 19 [some (.ref 22), some (.int x1), l2] [] (mw_U s) = (mj_call X d 55 [.ref 25, .int x1] (mw_U s)).bind (mj_bk X (d + 1) 94 27 [some (.ref 22), some (.int x1), l2] []) := (mj_q_aload_n mw_m94 d94_19 rfl (by decide)).trans ((mw_q_getr mw_m94 d94_20 mw_p5_21 mw_c_22 mw_f_22_1).trans ((mj_q_iload_n mw_m94 d94_23 rfl).trans (mw_q_callv mw_m94 rfl d94_24 mw_p5_104 mw_m55 rfl rfl (Nat.le_of_ble_eq_true rfl) (Nat.le_of_ble_eq_true rfl) rfl (mw_rcv mw_c_25) rfl rfl)))
theorem b94_27 {X : mj_X} {d : Nat} {s : mw_S} {x1 : Int32} {l2 : Option Value} {xs0 : Int32}  : mj_exec X d 94 27 [some (.ref 22), some (.int x1), l2] [.int xs0] (mw_U s) = if xs0 = (-1) then mj_exec X d 94 37 [some (.ref 22), some (.int x1), l2] [] (mw_U s) else mj_exec X d 94 31 [some (.ref 22), some (.int x1), l2] [] (mw_U s) := (mj_q_iconst mw_m94 d94_27 mw_k_iconst_m1).trans (mj_q_icmp_eq mw_m94 d94_28 rfl)
theorem b94_31 {X : mj_X} {d : Nat} {s : mw_S} {x1 : Int32} {l2 : Option Value}  : mj_exec X (d + 1) 94 31 [some (.ref 22), some (.int x1), l2] [] (mw_U s) = (mj_call X d 92 [.ref 22, .int (nI 4)] (mw_U s)).bind (mj_bk X (d + 1) 94 36 [some (.ref 22), some (.int x1), l2] []) := (mj_q_aload_n mw_m94 d94_31 rfl (by decide)).trans ((mj_q_iconst mw_m94 d94_32 mw_k_iconst_4).trans (mw_q_callv mw_m94 rfl d94_33 mw_p5_62 mw_m92 rfl rfl (Nat.le_of_ble_eq_true rfl) (Nat.le_of_ble_eq_true rfl) rfl (mw_rcv mw_c_22) rfl rfl))
theorem b94_36 {X : mj_X} {d : Nat} {s : mw_S} {x1 : Int32} {l2 : Option Value} {xs0 : Int32}  : mj_exec X d 94 36 [some (.ref 22), some (.int x1), l2] [.int xs0] (mw_U s) = if mj_rfit (some .boolean) xs0 = true then some (.inl (some (.int xs0)), mw_U s) else none := mw_h_iret mw_m94 d94_36 rfl
theorem b94_37 {X : mj_X} {d : Nat} {s : mw_S} {x1 : Int32} {l2 : Option Value}  : mj_exec X (d + 1) 94 37 [some (.ref 22), some (.int x1), l2] [] (mw_U s) = (mj_call X d 131 [.ref 23] (mw_U s)).bind (mj_bk X (d + 1) 94 44 [some (.ref 22), some (.int x1), l2] []) := (mj_q_aload_n mw_m94 d94_37 rfl (by decide)).trans ((mw_q_getr mw_m94 d94_38 mw_p5_12 mw_c_22 mw_f_22_0).trans (mw_q_callv mw_m94 rfl d94_41 mw_p5_65 mw_m131 rfl rfl (Nat.le_of_ble_eq_true rfl) (Nat.le_of_ble_eq_true rfl) rfl (mw_rcv mw_c_23) rfl rfl))
theorem b94_44 {X : mj_X} {d : Nat} {s : mw_S} {x1 : Int32} {l2 : Option Value}  : mj_exec X (d + 1) 94 44 [some (.ref 22), some (.int x1), l2] [] (mw_U s) = (mj_call X d 95 [.ref 22] (mw_U s)).bind (mj_bk X (d + 1) 94 48 [some (.ref 22), some (.int x1), l2] []) := (mj_q_aload_n mw_m94 d94_44 rfl (by decide)).trans (mw_q_callv mw_m94 rfl d94_45 mw_p5_101 mw_m95 rfl rfl (Nat.le_of_ble_eq_true rfl) (Nat.le_of_ble_eq_true rfl) rfl (mw_rcv mw_c_22) rfl rfl)
theorem b94_48 {X : mj_X} {d : Nat} {s : mw_S} {x1 : Int32} {l2 : Option Value} {xs0 : Int32}  : mj_exec X d 94 48 [some (.ref 22), some (.int x1), l2] [.int xs0] (mw_U s) = if xs0 = (-1) then mj_exec X d 94 54 [some (.ref 22), some (.int x1), some (.int xs0)] [] (mw_U s) else mj_exec X d 94 56 [some (.ref 22), some (.int x1), some (.int xs0)] [] (mw_U s) := (mj_q_istore_n mw_m94 d94_48 (Nat.le_of_ble_eq_true rfl) rfl rfl).trans ((mj_q_iload_n mw_m94 d94_49 rfl).trans ((mj_q_iconst mw_m94 d94_50 mw_k_iconst_m1).trans (mj_q_icmp_ne mw_m94 d94_51 rfl)))
theorem b94_54 {X : mj_X} {d : Nat} {s : mw_S} {x1 : Int32} {x2 : Int32}  : mj_exec X d 94 54 [some (.ref 22), some (.int x1), some (.int x2)] [] (mw_U s) = some (.inl (some (.int (nI 0))), mw_U s) := (mj_q_iconst mw_m94 d94_54 mw_k_iconst_0).trans (mj_q_iret mw_m94 d94_55 (by decide))
theorem b94_56 {X : mj_X} {d : Nat} {s : mw_S} {x1 : Int32} {x2 : Int32}  : mj_exec X (d + 1) 94 56 [some (.ref 22), some (.int x1), some (.int x2)] [] (mw_U s) = (mj_call X d 63 [.ref 25, .int x1, .int x2] (mw_U s)).bind (mj_bk X (d + 1) 94 65 [some (.ref 22), some (.int x1), some (.int x2)] []) := (mj_q_aload_n mw_m94 d94_56 rfl (by decide)).trans ((mw_q_getr mw_m94 d94_57 mw_p5_21 mw_c_22 mw_f_22_1).trans ((mj_q_iload_n mw_m94 d94_60 rfl).trans ((mj_q_iload_n mw_m94 d94_61 rfl).trans (mw_q_callv mw_m94 rfl d94_62 mw_p5_108 mw_m63 rfl rfl (Nat.le_of_ble_eq_true rfl) (Nat.le_of_ble_eq_true rfl) rfl (mw_rcv mw_c_25) rfl rfl))))
theorem b94_65 {X : mj_X} {d : Nat} {s : mw_S} {x1 : Int32} {x2 : Int32} {xs0 : Int32}  : mj_exec X d 94 65 [some (.ref 22), some (.int x1), some (.int x2)] [.int xs0] (mw_U s) = if xs0 = 0 then mj_exec X d 94 68 [some (.ref 22), some (.int x1), some (.int x2)] [] (mw_U s) else mj_exec X d 94 74 [some (.ref 22), some (.int x1), some (.int x2)] [] (mw_U s) := mj_q_if_ne mw_m94 d94_65 rfl
theorem b94_68 {X : mj_X} {d : Nat} {s : mw_S} {x1 : Int32} {x2 : Int32}  : mj_exec X (d + 1) 94 68 [some (.ref 22), some (.int x1), some (.int x2)] [] (mw_U s) = (mj_call X d 92 [.ref 22, .int (nI 4)] (mw_U s)).bind (mj_bk X (d + 1) 94 73 [some (.ref 22), some (.int x1), some (.int x2)] []) := (mj_q_aload_n mw_m94 d94_68 rfl (by decide)).trans ((mj_q_iconst mw_m94 d94_69 mw_k_iconst_4).trans (mw_q_callv mw_m94 rfl d94_70 mw_p5_62 mw_m92 rfl rfl (Nat.le_of_ble_eq_true rfl) (Nat.le_of_ble_eq_true rfl) rfl (mw_rcv mw_c_22) rfl rfl))
theorem b94_73 {X : mj_X} {d : Nat} {s : mw_S} {x1 : Int32} {x2 : Int32} {xs0 : Int32}  : mj_exec X d 94 73 [some (.ref 22), some (.int x1), some (.int x2)] [.int xs0] (mw_U s) = if mj_rfit (some .boolean) xs0 = true then some (.inl (some (.int xs0)), mw_U s) else none := mw_h_iret mw_m94 d94_73 rfl
theorem b94_74 {X : mj_X} {d : Nat} {s : mw_S} {x1 : Int32} {x2 : Int32}  : mj_exec X (d + 1) 94 74 [some (.ref 22), some (.int x1), some (.int x2)] [] (mw_U s) = (mj_call X d 131 [.ref 23] (mw_U s)).bind (mj_bk X (d + 1) 94 81 [some (.ref 22), some (.int x1), some (.int x2)] []) := (mj_q_aload_n mw_m94 d94_74 rfl (by decide)).trans ((mw_q_getr mw_m94 d94_75 mw_p5_12 mw_c_22 mw_f_22_0).trans (mw_q_callv mw_m94 rfl d94_78 mw_p5_65 mw_m131 rfl rfl (Nat.le_of_ble_eq_true rfl) (Nat.le_of_ble_eq_true rfl) rfl (mw_rcv mw_c_23) rfl rfl))
theorem b94_81 {X : mj_X} {d : Nat} {s : mw_S} {x1 : Int32} {x2 : Int32}  : mj_exec X (d + 1) 94 81 [some (.ref 22), some (.int x1), some (.int x2)] [] (mw_U s) = (mj_call X d 65 [.ref 25, .int x1, .int x2] (mw_U s)).bind (mj_bk X (d + 1) 94 90 [some (.ref 22), some (.int x1), some (.int x2)] []) := (mj_q_aload_n mw_m94 d94_81 rfl (by decide)).trans ((mw_q_getr mw_m94 d94_82 mw_p5_21 mw_c_22 mw_f_22_1).trans ((mj_q_iload_n mw_m94 d94_85 rfl).trans ((mj_q_iload_n mw_m94 d94_86 rfl).trans (mw_q_callv mw_m94 rfl d94_87 mw_p5_112 mw_m65 rfl rfl (Nat.le_of_ble_eq_true rfl) (Nat.le_of_ble_eq_true rfl) rfl (mw_rcv mw_c_25) rfl rfl))))
theorem b94_90 {X : mj_X} {d : Nat} {s : mw_S} {x1 : Int32} {x2 : Int32}  : mj_exec X d 94 90 [some (.ref 22), some (.int x1), some (.int x2)] [] (mw_U s) = some (.inl (some (.int (nI 1))), mw_U s) := (mj_q_iconst mw_m94 d94_90 mw_k_iconst_1).trans (mj_q_iret mw_m94 d94_91 (by decide))
/-- WivesQuarrels$Reader.lookAtPerson -/
theorem d95_0 : decode prog_8_method_12_code 0 = .ok (.aload_n 0, 1) := by decide +kernel
theorem d95_1 : decode prog_8_method_12_code 1 = .ok (.getfield 12, 3) := by decide +kernel
theorem d95_4 : decode prog_8_method_12_code 4 = .ok (.invokevirtual 47, 3) := by decide +kernel
theorem d95_7 : decode prog_8_method_12_code 7 = .ok (.iconst 2, 1) := by decide +kernel
theorem d95_8 : decode prog_8_method_12_code 8 = .ok (.if_icmp .eq 11, 3) := by decide +kernel
theorem d95_11 : decode prog_8_method_12_code 11 = .ok (.aload_n 0, 1) := by decide +kernel
theorem d95_12 : decode prog_8_method_12_code 12 = .ok (.iconst 1, 1) := by decide +kernel
theorem d95_13 : decode prog_8_method_12_code 13 = .ok (.invokevirtual 62, 3) := by decide +kernel
theorem d95_16 : decode prog_8_method_12_code 16 = .ok (.pop, 1) := by decide +kernel
theorem d95_17 : decode prog_8_method_12_code 17 = .ok (.iconst (-1), 1) := by decide +kernel
theorem d95_18 : decode prog_8_method_12_code 18 = .ok (.ireturn, 1) := by decide +kernel
theorem d95_19 : decode prog_8_method_12_code 19 = .ok (.aload_n 0, 1) := by decide +kernel
theorem d95_20 : decode prog_8_method_12_code 20 = .ok (.getfield 12, 3) := by decide +kernel
theorem d95_23 : decode prog_8_method_12_code 23 = .ok (.invokevirtual 87, 3) := by decide +kernel
theorem d95_26 : decode prog_8_method_12_code 26 = .ok (.ifCond .eq 11, 3) := by decide +kernel
theorem d95_29 : decode prog_8_method_12_code 29 = .ok (.aload_n 0, 1) := by decide +kernel
theorem d95_30 : decode prog_8_method_12_code 30 = .ok (.iconst 2, 1) := by decide +kernel
theorem d95_31 : decode prog_8_method_12_code 31 = .ok (.invokevirtual 62, 3) := by decide +kernel
theorem d95_34 : decode prog_8_method_12_code 34 = .ok (.pop, 1) := by decide +kernel
theorem d95_35 : decode prog_8_method_12_code 35 = .ok (.iconst (-1), 1) := by decide +kernel
theorem d95_36 : decode prog_8_method_12_code 36 = .ok (.ireturn, 1) := by decide +kernel
theorem d95_37 : decode prog_8_method_12_code 37 = .ok (.aload_n 0, 1) := by decide +kernel
theorem d95_38 : decode prog_8_method_12_code 38 = .ok (.getfield 12, 3) := by decide +kernel
theorem d95_41 : decode prog_8_method_12_code 41 = .ok (.invokevirtual 84, 3) := by decide +kernel
theorem d95_44 : decode prog_8_method_12_code 44 = .ok (.aload_n 0, 1) := by decide +kernel
theorem d95_45 : decode prog_8_method_12_code 45 = .ok (.getfield 21, 3) := by decide +kernel
theorem d95_48 : decode prog_8_method_12_code 48 = .ok (.invokevirtual 90, 3) := by decide +kernel
theorem d95_51 : decode prog_8_method_12_code 51 = .ok (.if_icmp .lt 11, 3) := by decide +kernel
theorem d95_54 : decode prog_8_method_12_code 54 = .ok (.aload_n 0, 1) := by decide +kernel
theorem d95_55 : decode prog_8_method_12_code 55 = .ok (.iconst 3, 1) := by decide +kernel
theorem d95_56 : decode prog_8_method_12_code 56 = .ok (.invokevirtual 62, 3) := by decide +kernel
theorem d95_59 : decode prog_8_method_12_code 59 = .ok (.pop, 1) := by decide +kernel
theorem d95_60 : decode prog_8_method_12_code 60 = .ok (.iconst (-1), 1) := by decide +kernel
theorem d95_61 : decode prog_8_method_12_code 61 = .ok (.ireturn, 1) := by decide +kernel
theorem d95_62 : decode prog_8_method_12_code 62 = .ok (.aload_n 0, 1) := by decide +kernel
theorem d95_63 : decode prog_8_method_12_code 63 = .ok (.getfield 12, 3) := by decide +kernel
theorem d95_66 : decode prog_8_method_12_code 66 = .ok (.invokevirtual 84, 3) := by decide +kernel
theorem d95_69 : decode prog_8_method_12_code 69 = .ok (.ireturn, 1) := by decide +kernel
theorem b95 {X : mj_X} {d : Nat} {w : mj_W} {x0 : Nat} : mj_call X d 95 [.ref x0] w = mj_exec X d 95 0 [some (.ref x0)] [] w := mw_ent mw_m95 (Nat.le_of_ble_eq_true rfl) rfl
theorem b95_0 {X : mj_X} {d : Nat} {s : mw_S}   : mj_exec X (d + 1) 95 0 [some (.ref 22)] [] (mw_U s) = (mj_call X d 135 [.ref 23] (mw_U s)).bind (mj_bk X (d + 1) 95 7 [some (.ref 22)] []) := (mj_q_aload_n mw_m95 d95_0 rfl (by decide)).trans ((mw_q_getr mw_m95 d95_1 mw_p5_12 mw_c_22 mw_f_22_0).trans (mw_q_callv mw_m95 rfl d95_4 mw_p5_47 mw_m135 rfl rfl (Nat.le_of_ble_eq_true rfl) (Nat.le_of_ble_eq_true rfl) rfl (mw_rcv mw_c_23) rfl rfl))
theorem b95_7 {X : mj_X} {d : Nat} {s : mw_S} {xs0 : Int32}  : mj_exec X d 95 7 [some (.ref 22)] [.int xs0] (mw_U s) = if xs0 = (nI 2) then mj_exec X d 95 19 [some (.ref 22)] [] (mw_U s) else mj_exec X d 95 11 [some (.ref 22)] [] (mw_U s) := (mj_q_iconst mw_m95 d95_7 mw_k_iconst_2).trans (mj_q_icmp_eq mw_m95 d95_8 rfl)
theorem b95_11 {X : mj_X} {d : Nat} {s : mw_S}   : mj_exec X (d + 1) 95 11 [some (.ref 22)] [] (mw_U s) = (mj_call X d 92 [.ref 22, .int (nI 1)] (mw_U s)).bind (mj_bk X (d + 1) 95 16 [some (.ref 22)] []) := (mj_q_aload_n mw_m95 d95_11 rfl (by decide)).trans ((mj_q_iconst mw_m95 d95_12 mw_k_iconst_1).trans (mw_q_callv mw_m95 rfl d95_13 mw_p5_62 mw_m92 rfl rfl (Nat.le_of_ble_eq_true rfl) (Nat.le_of_ble_eq_true rfl) rfl (mw_rcv mw_c_22) rfl rfl))
theorem b95_16 {X : mj_X} {d : Nat} {s : mw_S} {xs0 : Int32}  : mj_exec X d 95 16 [some (.ref 22)] [.int xs0] (mw_U s) = some (.inl (some (.int (-1))), mw_U s) := (mj_q_pop mw_m95 d95_16 rfl).trans ((mj_q_iconst mw_m95 d95_17 mw_k_iconst_m1).trans (mj_q_iret mw_m95 d95_18 rfl))
theorem b95_19 {X : mj_X} {d : Nat} {s : mw_S}   : mj_exec X (d + 1) 95 19 [some (.ref 22)] [] (mw_U s) = (mj_call X d 138 [.ref 23] (mw_U s)).bind (mj_bk X (d + 1) 95 26 [some (.ref 22)] []) := (mj_q_aload_n mw_m95 d95_19 rfl (by decide)).trans ((mw_q_getr mw_m95 d95_20 mw_p5_12 mw_c_22 mw_f_22_0).trans (mw_q_callv mw_m95 rfl d95_23 mw_p5_87 mw_m138 rfl rfl (Nat.le_of_ble_eq_true rfl) (Nat.le_of_ble_eq_true rfl) rfl (mw_rcv mw_c_23) rfl rfl))
theorem b95_26 {X : mj_X} {d : Nat} {s : mw_S} {xs0 : Int32}  : mj_exec X d 95 26 [some (.ref 22)] [.int xs0] (mw_U s) = if xs0 = 0 then mj_exec X d 95 37 [some (.ref 22)] [] (mw_U s) else mj_exec X d 95 29 [some (.ref 22)] [] (mw_U s) := mj_q_if_eq mw_m95 d95_26 rfl
theorem b95_29 {X : mj_X} {d : Nat} {s : mw_S}   : mj_exec X (d + 1) 95 29 [some (.ref 22)] [] (mw_U s) = (mj_call X d 92 [.ref 22, .int (nI 2)] (mw_U s)).bind (mj_bk X (d + 1) 95 34 [some (.ref 22)] []) := (mj_q_aload_n mw_m95 d95_29 rfl (by decide)).trans ((mj_q_iconst mw_m95 d95_30 mw_k_iconst_2).trans (mw_q_callv mw_m95 rfl d95_31 mw_p5_62 mw_m92 rfl rfl (Nat.le_of_ble_eq_true rfl) (Nat.le_of_ble_eq_true rfl) rfl (mw_rcv mw_c_22) rfl rfl))
theorem b95_34 {X : mj_X} {d : Nat} {s : mw_S} {xs0 : Int32}  : mj_exec X d 95 34 [some (.ref 22)] [.int xs0] (mw_U s) = some (.inl (some (.int (-1))), mw_U s) := (mj_q_pop mw_m95 d95_34 rfl).trans ((mj_q_iconst mw_m95 d95_35 mw_k_iconst_m1).trans (mj_q_iret mw_m95 d95_36 rfl))
theorem b95_37 {X : mj_X} {d : Nat} {s : mw_S}   : mj_exec X (d + 1) 95 37 [some (.ref 22)] [] (mw_U s) = (mj_call X d 137 [.ref 23] (mw_U s)).bind (mj_bk X (d + 1) 95 44 [some (.ref 22)] []) := (mj_q_aload_n mw_m95 d95_37 rfl (by decide)).trans ((mw_q_getr mw_m95 d95_38 mw_p5_12 mw_c_22 mw_f_22_0).trans (mw_q_callv mw_m95 rfl d95_41 mw_p5_84 mw_m137 rfl rfl (Nat.le_of_ble_eq_true rfl) (Nat.le_of_ble_eq_true rfl) rfl (mw_rcv mw_c_23) rfl rfl))
theorem b95_44 {X : mj_X} {d : Nat} {s : mw_S} {xs0 : Int32}  : mj_exec X (d + 1) 95 44 [some (.ref 22)] [.int xs0] (mw_U s) = (mj_call X d 61 [.ref 25] (mw_U s)).bind (mj_bk X (d + 1) 95 51 [some (.ref 22)] [.int xs0]) := (mj_q_aload_n mw_m95 d95_44 rfl (by decide)).trans ((mw_q_getr mw_m95 d95_45 mw_p5_21 mw_c_22 mw_f_22_1).trans (mw_q_callv mw_m95 rfl d95_48 mw_p5_90 mw_m61 rfl rfl (Nat.le_of_ble_eq_true rfl) (Nat.le_of_ble_eq_true rfl) rfl (mw_rcv mw_c_25) rfl rfl))
theorem b95_51 {X : mj_X} {d : Nat} {s : mw_S} {xs0 : Int32} {xs1 : Int32}  : mj_exec X d 95 51 [some (.ref 22)] [.int xs1, .int xs0] (mw_U s) = if xs0 < xs1 then mj_exec X d 95 62 [some (.ref 22)] [] (mw_U s) else mj_exec X d 95 54 [some (.ref 22)] [] (mw_U s) := mj_q_icmp_lt mw_m95 d95_51 rfl
theorem b95_54 {X : mj_X} {d : Nat} {s : mw_S}   : mj_exec X (d + 1) 95 54 [some (.ref 22)] [] (mw_U s) = (mj_call X d 92 [.ref 22, .int (nI 3)] (mw_U s)).bind (mj_bk X (d + 1) 95 59 [some (.ref 22)] []) := (mj_q_aload_n mw_m95 d95_54 rfl (by decide)).trans ((mj_q_iconst mw_m95 d95_55 mw_k_iconst_3).trans (mw_q_callv mw_m95 rfl d95_56 mw_p5_62 mw_m92 rfl rfl (Nat.le_of_ble_eq_true rfl) (Nat.le_of_ble_eq_true rfl) rfl (mw_rcv mw_c_22) rfl rfl))
theorem b95_59 {X : mj_X} {d : Nat} {s : mw_S} {xs0 : Int32}  : mj_exec X d 95 59 [some (.ref 22)] [.int xs0] (mw_U s) = some (.inl (some (.int (-1))), mw_U s) := (mj_q_pop mw_m95 d95_59 rfl).trans ((mj_q_iconst mw_m95 d95_60 mw_k_iconst_m1).trans (mj_q_iret mw_m95 d95_61 rfl))
theorem b95_62 {X : mj_X} {d : Nat} {s : mw_S}   : mj_exec X (d + 1) 95 62 [some (.ref 22)] [] (mw_U s) = (mj_call X d 137 [.ref 23] (mw_U s)).bind (mj_bk X (d + 1) 95 69 [some (.ref 22)] []) := (mj_q_aload_n mw_m95 d95_62 rfl (by decide)).trans ((mw_q_getr mw_m95 d95_63 mw_p5_12 mw_c_22 mw_f_22_0).trans (mw_q_callv mw_m95 rfl d95_66 mw_p5_84 mw_m137 rfl rfl (Nat.le_of_ble_eq_true rfl) (Nat.le_of_ble_eq_true rfl) rfl (mw_rcv mw_c_23) rfl rfl))
theorem b95_69 {X : mj_X} {d : Nat} {s : mw_S} {xs0 : Int32}  : mj_exec X d 95 69 [some (.ref 22)] [.int xs0] (mw_U s) = some (.inl (some (.int xs0)), mw_U s) := mj_q_iret mw_m95 d95_69 rfl
/-- WivesQuarrels$Reader.readQuarrel -/
theorem d96_0 : decode prog_8_method_14_code 0 = .ok (.aload_n 0, 1) := by decide +kernel
theorem d96_1 : decode prog_8_method_14_code 1 = .ok (.getfield 12, 3) := by decide +kernel
theorem d96_4 : decode prog_8_method_14_code 4 = .ok (.invokevirtual 65, 3) := by decide +kernel
theorem d96_7 : decode prog_8_method_14_code 7 = .ok (.aload_n 0, 1) := by decide +kernel
theorem d96_8 : decode prog_8_method_14_code 8 = .ok (.invokevirtual 101, 3) := by decide +kernel
theorem d96_11 : decode prog_8_method_14_code 11 = .ok (.istore_n 1, 1) := by decide +kernel
theorem d96_12 : decode prog_8_method_14_code 12 = .ok (.iload_n 1, 1) := by decide +kernel
theorem d96_13 : decode prog_8_method_14_code 13 = .ok (.iconst (-1), 1) := by decide +kernel
theorem d96_14 : decode prog_8_method_14_code 14 = .ok (.if_icmp .ne 5, 3) := by decide +kernel
theorem d96_17 : decode prog_8_method_14_code 17 = .ok (.iconst 0, 1) := by decide +kernel
theorem d96_18 : decode prog_8_method_14_code 18 = .ok (.ireturn, 1) := by decide +kernel
theorem d96_19 : decode prog_8_method_14_code 19 = .ok (.aload_n 0, 1) := by decide +kernel
theorem d96_20 : decode prog_8_method_14_code 20 = .ok (.getfield 12, 3) := by decide +kernel
theorem d96_23 : decode prog_8_method_14_code 23 = .ok (.invokevirtual 65, 3) := by decide +kernel
theorem d96_26 : decode prog_8_method_14_code 26 = .ok (.aload_n 0, 1) := by decide +kernel
theorem d96_27 : decode prog_8_method_14_code 27 = .ok (.invokevirtual 101, 3) := by decide +kernel
theorem d96_30 : decode prog_8_method_14_code 30 = .ok (.istore_n 2, 1) := by decide +kernel
theorem d96_31 : decode prog_8_method_14_code 31 = .ok (.iload_n 2, 1) := by decide +kernel
theorem d96_32 : decode prog_8_method_14_code 32 = .ok (.iconst (-1), 1) := by decide +kernel
theorem d96_33 : decode prog_8_method_14_code 33 = .ok (.if_icmp .ne 5, 3) := by decide +kernel
theorem d96_36 : decode prog_8_method_14_code 36 = .ok (.iconst 0, 1) := by decide +kernel
theorem d96_37 : decode prog_8_method_14_code 37 = .ok (.ireturn, 1) := by decide +kernel
theorem d96_38 : decode prog_8_method_14_code 38 = .ok (.iload_n 1, 1) := by decide +kernel
theorem d96_39 : decode prog_8_method_14_code 39 = .ok (.iload_n 2, 1) := by decide +kernel
theorem d96_40 : decode prog_8_method_14_code 40 = .ok (.invokestatic 116, 3) := by decide +kernel
theorem d96_43 : decode prog_8_method_14_code 43 = .ok (.istore_n 3, 1) := by decide +kernel
theorem d96_44 : decode prog_8_method_14_code 44 = .ok (.iload_n 3, 1) := by decide +kernel
theorem d96_45 : decode prog_8_method_14_code 45 = .ok (.iconst (-1), 1) := by decide +kernel
theorem d96_46 : decode prog_8_method_14_code 46 = .ok (.if_icmp .eq 14, 3) := by decide +kernel
theorem d96_49 : decode prog_8_method_14_code 49 = .ok (.aload_n 0, 1) := by decide +kernel
theorem d96_50 : decode prog_8_method_14_code 50 = .ok (.getfield 21, 3) := by decide +kernel
theorem d96_53 : decode prog_8_method_14_code 53 = .ok (.iload_n 3, 1) := by decide +kernel
theorem d96_54 : decode prog_8_method_14_code 54 = .ok (.invokevirtual 119, 3) := by decide +kernel
theorem d96_57 : decode prog_8_method_14_code 57 = .ok (.ifCond .eq 9, 3) := by decide +kernel
theorem d96_60 : decode prog_8_method_14_code 60 = .ok (.aload_n 0, 1) := by decide +kernel
theorem d96_61 : decode prog_8_method_14_code 61 = .ok (.iconst 4, 1) := by decide +kernel
theorem d96_62 : decode prog_8_method_14_code 62 = .ok (.invokevirtual 62, 3) := by decide +kernel
theorem d96_65 : decode prog_8_method_14_code 65 = .ok (.ireturn, 1) := by decide +kernel
theorem d96_66 : decode prog_8_method_14_code 66 = .ok (.aload_n 0, 1) := by decide +kernel
theorem d96_67 : decode prog_8_method_14_code 67 = .ok (.getfield 12, 3) := by decide +kernel
theorem d96_70 : decode prog_8_method_14_code 70 = .ok (.invokevirtual 65, 3) := by decide +kernel
theorem d96_73 : decode prog_8_method_14_code 73 = .ok (.aload_n 0, 1) := by decide +kernel
theorem d96_74 : decode prog_8_method_14_code 74 = .ok (.iconst 1, 1) := by decide +kernel
theorem d96_75 : decode prog_8_method_14_code 75 = .ok (.bipush 99, 2) := by decide +kernel
theorem d96_77 : decode prog_8_method_14_code 77 = .ok (.invokevirtual 93, 3) := by decide +kernel
theorem d96_80 : decode prog_8_method_14_code 80 = .ok (.istore 4, 2) := by decide +kernel
theorem d96_82 : decode prog_8_method_14_code 82 = .ok (.iload 4, 2) := by decide +kernel
theorem d96_84 : decode prog_8_method_14_code 84 = .ok (.iconst (-1), 1) := by decide +kernel
theorem d96_85 : decode prog_8_method_14_code 85 = .ok (.if_icmp .ne 5, 3) := by decide +kernel
theorem d96_88 : decode prog_8_method_14_code 88 = .ok (.iconst 0, 1) := by decide +kernel
theorem d96_89 : decode prog_8_method_14_code 89 = .ok (.ireturn, 1) := by decide +kernel
theorem d96_90 : decode prog_8_method_14_code 90 = .ok (.aload_n 0, 1) := by decide +kernel
theorem d96_91 : decode prog_8_method_14_code 91 = .ok (.iconst 0, 1) := by decide +kernel
theorem d96_92 : decode prog_8_method_14_code 92 = .ok (.bipush 9, 2) := by decide +kernel
theorem d96_94 : decode prog_8_method_14_code 94 = .ok (.invokevirtual 93, 3) := by decide +kernel
theorem d96_97 : decode prog_8_method_14_code 97 = .ok (.istore 5, 2) := by decide +kernel
theorem d96_99 : decode prog_8_method_14_code 99 = .ok (.iload 5, 2) := by decide +kernel
theorem d96_101 : decode prog_8_method_14_code 101 = .ok (.iconst (-1), 1) := by decide +kernel
theorem d96_102 : decode prog_8_method_14_code 102 = .ok (.if_icmp .ne 5, 3) := by decide +kernel
theorem d96_105 : decode prog_8_method_14_code 105 = .ok (.iconst 0, 1) := by decide +kernel
theorem d96_106 : decode prog_8_method_14_code 106 = .ok (.ireturn, 1) := by decide +kernel
theorem d96_107 : decode prog_8_method_14_code 107 = .ok (.aload_n 0, 1) := by decide +kernel
theorem d96_108 : decode prog_8_method_14_code 108 = .ok (.getfield 21, 3) := by decide +kernel
theorem d96_111 : decode prog_8_method_14_code 111 = .ok (.iload_n 3, 1) := by decide +kernel
theorem d96_112 : decode prog_8_method_14_code 112 = .ok (.iload 4, 2) := by decide +kernel
theorem d96_114 : decode prog_8_method_14_code 114 = .ok (.iload 5, 2) := by decide +kernel
theorem d96_116 : decode prog_8_method_14_code 116 = .ok (.invokevirtual 122, 3) := by decide +kernel
theorem d96_119 : decode prog_8_method_14_code 119 = .ok (.iconst 1, 1) := by decide +kernel
theorem d96_120 : decode prog_8_method_14_code 120 = .ok (.ireturn, 1) := by decide +kernel
theorem b96 {X : mj_X} {d : Nat} {w : mj_W} {x0 : Nat} : mj_call X d 96 [.ref x0] w = mj_exec X d 96 0 [some (.ref x0), none, none, none, none, none] [] w := mw_ent mw_m96 (Nat.le_of_ble_eq_true rfl) rfl
theorem b96_0 {X : mj_X} {d : Nat} {s : mw_S} {l1 : Option Value} {l2 : Option Value} {l3 : Option Value} {l4 : Option Value} {l5 : Option Value}  : mj_exec X (d + 1) 96 0 [some (.ref 22), l1, l2, l3, l4, l5] [] (mw_U s) = (mj_call X d 131 [.ref 23] (mw_U s)).bind (mj_bk X (d + 1) 96 7 [some (.ref 22), l1, l2, l3, l4, l5] []) := (mj_q_aload_n mw_m96 d96_0 rfl (by decide)).trans ((mw_q_getr mw_m96 d96_1 mw_p5_12 mw_c_22 mw_f_22_0).trans (mw_q_callv mw_m96 rfl d96_4 mw_p5_65 mw_m131 rfl rfl (Nat.le_of_ble_eq_true rfl) (Nat.le_of_ble_eq_true rfl) rfl (mw_rcv mw_c_23) rfl rfl))
theorem b96_7 {X : mj_X} {d : Nat} {s : mw_S} {l1 : Option Value} {l2 : Option Value} {l3 : Option Value} {l4 : Option Value} {l5 : Option Value}  : mj_exec X (d + 1) 96 7 [some (.ref 22), l1, l2, l3, l4, l5] [] (mw_U s) = (mj_call X d 95 [.ref 22] (mw_U s)).bind (mj_bk X (d + 1) 96 11 [some (.ref 22), l1, l2, l3, l4, l5] []) := (mj_q_aload_n mw_m96 d96_7 rfl (by decide)).trans (mw_q_callv mw_m96 rfl d96_8 mw_p5_101 mw_m95 rfl rfl (Nat.le_of_ble_eq_true rfl) (Nat.le_of_ble_eq_true rfl) rfl (mw_rcv mw_c_22) rfl rfl)
theorem b96_11 {X : mj_X} {d : Nat} {s : mw_S} {l1 : Option Value} {l2 : Option Value} {l3 : Option Value} {l4 : Option Value} {l5 : Option Value} {xs0 : Int32}  : mj_exec X d 96 11 [some (.ref 22), l1, l2, l3, l4, l5] [.int xs0] (mw_U s) = if xs0 = (-1) then mj_exec X d 96 17 [some (.ref 22), some (.int xs0), l2, l3, l4, l5] [] (mw_U s) else mj_exec X d 96 19 [some (.ref 22), some (.int xs0), l2, l3, l4, l5] [] (mw_U s) := (mj_q_istore_n mw_m96 d96_11 (Nat.le_of_ble_eq_true rfl) rfl rfl).trans ((mj_q_iload_n mw_m96 d96_12 rfl).trans ((mj_q_iconst mw_m96 d96_13 mw_k_iconst_m1).trans (mj_q_icmp_ne mw_m96 d96_14 rfl)))
theorem b96_17 {X : mj_X} {d : Nat} {s : mw_S} {x1 : Int32} {l2 : Option Value} {l3 : Option Value} {l4 : Option Value} {l5 : Option Value}  : mj_exec X d 96 17 [some (.ref 22), some (.int x1), l2, l3, l4, l5] [] (mw_U s) = some (.inl (some (.int (nI 0))), mw_U s) := (mj_q_iconst mw_m96 d96_17 mw_k_iconst_0).trans (mj_q_iret mw_m96 d96_18 (by decide))
theorem b96_19 {X : mj_X} {d : Nat} {s : mw_S} {x1 : Int32} {l2 : Option Value} {l3 : Option Value} {l4 : Option Value} {l5 : Option Value}  : mj_exec X (d + 1) 96 19 [some (.ref 22), some (.int x1), l2, l3, l4, l5] [] (mw_U s) = (mj_call X d 131 [.ref 23] (mw_U s)).bind (mj_bk X (d + 1) 96 26 [some (.ref 22), some (.int x1), l2, l3, l4, l5] []) := (mj_q_aload_n mw_m96 d96_19 rfl (by decide)).trans ((mw_q_getr mw_m96 d96_20 mw_p5_12 mw_c_22 mw_f_22_0).trans (mw_q_callv mw_m96 rfl d96_23 mw_p5_65 mw_m131 rfl rfl (Nat.le_of_ble_eq_true rfl) (Nat.le_of_ble_eq_true rfl) rfl (mw_rcv mw_c_23) rfl rfl))
theorem b96_26 {X : mj_X} {d : Nat} {s : mw_S} {x1 : Int32} {l2 : Option Value} {l3 : Option Value} {l4 : Option Value} {l5 : Option Value}  : mj_exec X (d + 1) 96 26 [some (.ref 22), some (.int x1), l2, l3, l4, l5] [] (mw_U s) = (mj_call X d 95 [.ref 22] (mw_U s)).bind (mj_bk X (d + 1) 96 30 [some (.ref 22), some (.int x1), l2, l3, l4, l5] []) := (mj_q_aload_n mw_m96 d96_26 rfl (by decide)).trans (mw_q_callv mw_m96 rfl d96_27 mw_p5_101 mw_m95 rfl rfl (Nat.le_of_ble_eq_true rfl) (Nat.le_of_ble_eq_true rfl) rfl (mw_rcv mw_c_22) rfl rfl)
theorem b96_30 {X : mj_X} {d : Nat} {s : mw_S} {x1 : Int32} {l2 : Option Value} {l3 : Option Value} {l4 : Option Value} {l5 : Option Value} {xs0 : Int32}  : mj_exec X d 96 30 [some (.ref 22), some (.int x1), l2, l3, l4, l5] [.int xs0] (mw_U s) = if xs0 = (-1) then mj_exec X d 96 36 [some (.ref 22), some (.int x1), some (.int xs0), l3, l4, l5] [] (mw_U s) else mj_exec X d 96 38 [some (.ref 22), some (.int x1), some (.int xs0), l3, l4, l5] [] (mw_U s) := (mj_q_istore_n mw_m96 d96_30 (Nat.le_of_ble_eq_true rfl) rfl rfl).trans ((mj_q_iload_n mw_m96 d96_31 rfl).trans ((mj_q_iconst mw_m96 d96_32 mw_k_iconst_m1).trans (mj_q_icmp_ne mw_m96 d96_33 rfl)))
theorem b96_36 {X : mj_X} {d : Nat} {s : mw_S} {x1 : Int32} {x2 : Int32} {l3 : Option Value} {l4 : Option Value} {l5 : Option Value}  : mj_exec X d 96 36 [some (.ref 22), some (.int x1), some (.int x2), l3, l4, l5] [] (mw_U s) = some (.inl (some (.int (nI 0))), mw_U s) := (mj_q_iconst mw_m96 d96_36 mw_k_iconst_0).trans (mj_q_iret mw_m96 d96_37 (by decide))
theorem b96_38 {X : mj_X} {d : Nat} {s : mw_S} {x1 : Int32} {x2 : Int32} {l3 : Option Value} {l4 : Option Value} {l5 : Option Value}  : mj_exec X (d + 1) 96 38 [some (.ref 22), some (.int x1), some (.int x2), l3, l4, l5] [] (mw_U s) = (mj_call X d 153 [.int x1, .int x2] (mw_U s)).bind (mj_bk X (d + 1) 96 43 [some (.ref 22), some (.int x1), some (.int x2), l3, l4, l5] []) := (mj_q_iload_n mw_m96 d96_38 rfl).trans ((mj_q_iload_n mw_m96 d96_39 rfl).trans (mw_q_calln mw_m96 rfl d96_40 mw_p5_116 mw_m153 rfl rfl (Nat.le_of_ble_eq_true rfl) (Nat.le_of_ble_eq_true rfl) rfl rfl))
theorem b96_43 {X : mj_X} {d : Nat} {s : mw_S} {x1 : Int32} {x2 : Int32} {l3 : Option Value} {l4 : Option Value} {l5 : Option Value} {xs0 : Int32}  : mj_exec X d 96 43 [some (.ref 22), some (.int x1), some (.int x2), l3, l4, l5] [.int xs0] (mw_U s) = if xs0 = (-1) then mj_exec X d 96 60 [some (.ref 22), some (.int x1), some (.int x2), some (.int xs0), l4, l5] [] (mw_U s) else mj_exec X d 96 49 [some (.ref 22), some (.int x1), some (.int x2), some (.int xs0), l4, l5] [] (mw_U s) := (mj_q_istore_n mw_m96 d96_43 (Nat.le_of_ble_eq_true rfl) rfl rfl).trans ((mj_q_iload_n mw_m96 d96_44 rfl).trans ((mj_q_iconst mw_m96 d96_45 mw_k_iconst_m1).trans (mj_q_icmp_eq mw_m96 d96_46 rfl)))
theorem b96_49 {X : mj_X} {d : Nat} {s : mw_S} {x1 : Int32} {x2 : Int32} {x3 : Int32} {l4 : Option Value} {l5 : Option Value}  : mj_exec X (d + 1) 96 49 [some (.ref 22), some (.int x1), some (.int x2), some (.int x3), l4, l5] [] (mw_U s) = (mj_call X d 36 [.ref 25, .int x3] (mw_U s)).bind (mj_bk X (d + 1) 96 57 [some (.ref 22), some (.int x1), some (.int x2), some (.int x3), l4, l5] []) := (mj_q_aload_n mw_m96 d96_49 rfl (by decide)).trans ((mw_q_getr mw_m96 d96_50 mw_p5_21 mw_c_22 mw_f_22_1).trans ((mj_q_iload_n mw_m96 d96_53 rfl).trans (mw_q_callv mw_m96 rfl d96_54 mw_p5_119 mw_m36 rfl rfl (Nat.le_of_ble_eq_true rfl) (Nat.le_of_ble_eq_true rfl) rfl (mw_rcv mw_c_25) rfl rfl)))
theorem b96_57 {X : mj_X} {d : Nat} {s : mw_S} {x1 : Int32} {x2 : Int32} {x3 : Int32} {l4 : Option Value} {l5 : Option Value} {xs0 : Int32}  : mj_exec X d 96 57 [some (.ref 22), some (.int x1), some (.int x2), some (.int x3), l4, l5] [.int xs0] (mw_U s) = if xs0 = 0 then mj_exec X d 96 66 [some (.ref 22), some (.int x1), some (.int x2), some (.int x3), l4, l5] [] (mw_U s) else mj_exec X d 96 60 [some (.ref 22), some (.int x1), some (.int x2), some (.int x3), l4, l5] [] (mw_U s) := mj_q_if_eq mw_m96 d96_57 rfl
theorem b96_60 {X : mj_X} {d : Nat} {s : mw_S} {x1 : Int32} {x2 : Int32} {x3 : Int32} {l4 : Option Value} {l5 : Option Value}  : mj_exec X (d + 1) 96 60 [some (.ref 22), some (.int x1), some (.int x2), some (.int x3), l4, l5] [] (mw_U s) = (mj_call X d 92 [.ref 22, .int (nI 4)] (mw_U s)).bind (mj_bk X (d + 1) 96 65 [some (.ref 22), some (.int x1), some (.int x2), some (.int x3), l4, l5] []) := (mj_q_aload_n mw_m96 d96_60 rfl (by decide)).trans ((mj_q_iconst mw_m96 d96_61 mw_k_iconst_4).trans (mw_q_callv mw_m96 rfl d96_62 mw_p5_62 mw_m92 rfl rfl (Nat.le_of_ble_eq_true rfl) (Nat.le_of_ble_eq_true rfl) rfl (mw_rcv mw_c_22) rfl rfl))
theorem b96_65 {X : mj_X} {d : Nat} {s : mw_S} {x1 : Int32} {x2 : Int32} {x3 : Int32} {l4 : Option Value} {l5 : Option Value} {xs0 : Int32}  : mj_exec X d 96 65 [some (.ref 22), some (.int x1), some (.int x2), some (.int x3), l4, l5] [.int xs0] (mw_U s) = if mj_rfit (some .boolean) xs0 = true then some (.inl (some (.int xs0)), mw_U s) else none := mw_h_iret mw_m96 d96_65 rfl
theorem b96_66 {X : mj_X} {d : Nat} {s : mw_S} {x1 : Int32} {x2 : Int32} {x3 : Int32} {l4 : Option Value} {l5 : Option Value}  : mj_exec X (d + 1) 96 66 [some (.ref 22), some (.int x1), some (.int x2), some (.int x3), l4, l5] [] (mw_U s) = (mj_call X d 131 [.ref 23] (mw_U s)).bind (mj_bk X (d + 1) 96 73 [some (.ref 22), some (.int x1), some (.int x2), some (.int x3), l4, l5] []) := (mj_q_aload_n mw_m96 d96_66 rfl (by decide)).trans ((mw_q_getr mw_m96 d96_67 mw_p5_12 mw_c_22 mw_f_22_0).trans (mw_q_callv mw_m96 rfl d96_70 mw_p5_65 mw_m131 rfl rfl (Nat.le_of_ble_eq_true rfl) (Nat.le_of_ble_eq_true rfl) rfl (mw_rcv mw_c_23) rfl rfl))
theorem b96_73 {X : mj_X} {d : Nat} {s : mw_S} {x1 : Int32} {x2 : Int32} {x3 : Int32} {l4 : Option Value} {l5 : Option Value}  : mj_exec X (d + 1) 96 73 [some (.ref 22), some (.int x1), some (.int x2), some (.int x3), l4, l5] [] (mw_U s) = (mj_call X d 93 [.ref 22, .int (nI 1), .int (nI 99)] (mw_U s)).bind (mj_bk X (d + 1) 96 80 [some (.ref 22), some (.int x1), some (.int x2), some (.int x3), l4, l5] []) := (mj_q_aload_n mw_m96 d96_73 rfl (by decide)).trans ((mj_q_iconst mw_m96 d96_74 mw_k_iconst_1).trans ((mj_q_bipush mw_m96 d96_75 mw_k_bipush_99).trans (mw_q_callv mw_m96 rfl d96_77 mw_p5_93 mw_m93 rfl rfl (Nat.le_of_ble_eq_true rfl) (Nat.le_of_ble_eq_true rfl) rfl (mw_rcv mw_c_22) rfl rfl)))
theorem b96_80 {X : mj_X} {d : Nat} {s : mw_S} {x1 : Int32} {x2 : Int32} {x3 : Int32} {l4 : Option Value} {l5 : Option Value} {xs0 : Int32}  : mj_exec X d 96 80 [some (.ref 22), some (.int x1), some (.int x2), some (.int x3), l4, l5] [.int xs0] (mw_U s) = if xs0 = (-1) then mj_exec X d 96 88 [some (.ref 22), some (.int x1), some (.int x2), some (.int x3), some (.int xs0), l5] [] (mw_U s) else mj_exec X d 96 90 [some (.ref 22), some (.int x1), some (.int x2), some (.int x3), some (.int xs0), l5] [] (mw_U s) := (mj_q_istore mw_m96 d96_80 (Nat.le_of_ble_eq_true rfl) rfl rfl).trans ((mj_q_iload mw_m96 d96_82 rfl).trans ((mj_q_iconst mw_m96 d96_84 mw_k_iconst_m1).trans (mj_q_icmp_ne mw_m96 d96_85 rfl)))
theorem b96_88 {X : mj_X} {d : Nat} {s : mw_S} {x1 : Int32} {x2 : Int32} {x3 : Int32} {x4 : Int32} {l5 : Option Value}  : mj_exec X d 96 88 [some (.ref 22), some (.int x1), some (.int x2), some (.int x3), some (.int x4), l5] [] (mw_U s) = some (.inl (some (.int (nI 0))), mw_U s) := (mj_q_iconst mw_m96 d96_88 mw_k_iconst_0).trans (mj_q_iret mw_m96 d96_89 (by decide))
theorem b96_90 {X : mj_X} {d : Nat} {s : mw_S} {x1 : Int32} {x2 : Int32} {x3 : Int32} {x4 : Int32} {l5 : Option Value}  : mj_exec X (d + 1) 96 90 [some (.ref 22), some (.int x1), some (.int x2), some (.int x3), some (.int x4), l5] [] (mw_U s) = (mj_call X d 93 [.ref 22, .int (nI 0), .int (nI 9)] (mw_U s)).bind (mj_bk X (d + 1) 96 97 [some (.ref 22), some (.int x1), some (.int x2), some (.int x3), some (.int x4), l5] []) := (mj_q_aload_n mw_m96 d96_90 rfl (by decide)).trans ((mj_q_iconst mw_m96 d96_91 mw_k_iconst_0).trans ((mj_q_bipush mw_m96 d96_92 mw_k_bipush_9).trans (mw_q_callv mw_m96 rfl d96_94 mw_p5_93 mw_m93 rfl rfl (Nat.le_of_ble_eq_true rfl) (Nat.le_of_ble_eq_true rfl) rfl (mw_rcv mw_c_22) rfl rfl)))
theorem b96_97 {X : mj_X} {d : Nat} {s : mw_S} {x1 : Int32} {x2 : Int32} {x3 : Int32} {x4 : Int32} {l5 : Option Value} {xs0 : Int32}  : mj_exec X d 96 97 [some (.ref 22), some (.int x1), some (.int x2), some (.int x3), some (.int x4), l5] [.int xs0] (mw_U s) = if xs0 = (-1) then mj_exec X d 96 105 [some (.ref 22), some (.int x1), some (.int x2), some (.int x3), some (.int x4), some (.int xs0)] [] (mw_U s) else mj_exec X d 96 107 [some (.ref 22), some (.int x1), some (.int x2), some (.int x3), some (.int x4), some (.int xs0)] [] (mw_U s) := (mj_q_istore mw_m96 d96_97 (Nat.le_of_ble_eq_true rfl) rfl rfl).trans ((mj_q_iload mw_m96 d96_99 rfl).trans ((mj_q_iconst mw_m96 d96_101 mw_k_iconst_m1).trans (mj_q_icmp_ne mw_m96 d96_102 rfl)))
theorem b96_105 {X : mj_X} {d : Nat} {s : mw_S} {x1 : Int32} {x2 : Int32} {x3 : Int32} {x4 : Int32} {x5 : Int32}  : mj_exec X d 96 105 [some (.ref 22), some (.int x1), some (.int x2), some (.int x3), some (.int x4), some (.int x5)] [] (mw_U s) = some (.inl (some (.int (nI 0))), mw_U s) := (mj_q_iconst mw_m96 d96_105 mw_k_iconst_0).trans (mj_q_iret mw_m96 d96_106 (by decide))
theorem b96_107 {X : mj_X} {d : Nat} {s : mw_S} {x1 : Int32} {x2 : Int32} {x3 : Int32} {x4 : Int32} {x5 : Int32}  : mj_exec X (d + 1) 96 107 [some (.ref 22), some (.int x1), some (.int x2), some (.int x3), some (.int x4), some (.int x5)] [] (mw_U s) = (mj_call X d 57 [.ref 25, .int x3, .int x4, .int x5] (mw_U s)).bind (mj_bk X (d + 1) 96 119 [some (.ref 22), some (.int x1), some (.int x2), some (.int x3), some (.int x4), some (.int x5)] []) := (mj_q_aload_n mw_m96 d96_107 rfl (by decide)).trans ((mw_q_getr mw_m96 d96_108 mw_p5_21 mw_c_22 mw_f_22_1).trans ((mj_q_iload_n mw_m96 d96_111 rfl).trans ((mj_q_iload mw_m96 d96_112 rfl).trans ((mj_q_iload mw_m96 d96_114 rfl).trans (mw_q_callv mw_m96 rfl d96_116 mw_p5_122 mw_m57 rfl rfl (Nat.le_of_ble_eq_true rfl) (Nat.le_of_ble_eq_true rfl) rfl (mw_rcv mw_c_25) rfl rfl)))))
theorem b96_119 {X : mj_X} {d : Nat} {s : mw_S} {x1 : Int32} {x2 : Int32} {x3 : Int32} {x4 : Int32} {x5 : Int32}  : mj_exec X d 96 119 [some (.ref 22), some (.int x1), some (.int x2), some (.int x3), some (.int x4), some (.int x5)] [] (mw_U s) = some (.inl (some (.int (nI 1))), mw_U s) := (mj_q_iconst mw_m96 d96_119 mw_k_iconst_1).trans (mj_q_iret mw_m96 d96_120 (by decide))
/-- WivesQuarrels$Reader.readHeats -/
theorem d97_0 : decode prog_8_method_15_code 0 = .ok (.aload_n 0, 1) := by decide +kernel
theorem d97_1 : decode prog_8_method_15_code 1 = .ok (.getfield 28, 3) := by decide +kernel
theorem d97_4 : decode prog_8_method_15_code 4 = .ok (.invokevirtual 126, 3) := by decide +kernel
theorem d97_7 : decode prog_8_method_15_code 7 = .ok (.ifCond .eq 9, 3) := by decide +kernel
theorem d97_10 : decode prog_8_method_15_code 10 = .ok (.aload_n 0, 1) := by decide +kernel
theorem d97_11 : decode prog_8_method_15_code 11 = .ok (.iconst 5, 1) := by decide +kernel
theorem d97_12 : decode prog_8_method_15_code 12 = .ok (.invokevirtual 62, 3) := by decide +kernel
theorem d97_15 : decode prog_8_method_15_code 15 = .ok (.ireturn, 1) := by decide +kernel
theorem d97_16 : decode prog_8_method_15_code 16 = .ok (.aload_n 0, 1) := by decide +kernel
theorem d97_17 : decode prog_8_method_15_code 17 = .ok (.getfield 12, 3) := by decide +kernel
theorem d97_20 : decode prog_8_method_15_code 20 = .ok (.invokevirtual 65, 3) := by decide +kernel
theorem d97_23 : decode prog_8_method_15_code 23 = .ok (.aload_n 0, 1) := by decide +kernel
theorem d97_24 : decode prog_8_method_15_code 24 = .ok (.getfield 28, 3) := by decide +kernel
theorem d97_27 : decode prog_8_method_15_code 27 = .ok (.invokevirtual 129, 3) := by decide +kernel
theorem d97_30 : decode prog_8_method_15_code 30 = .ok (.aload_n 0, 1) := by decide +kernel
theorem d97_31 : decode prog_8_method_15_code 31 = .ok (.iconst 0, 1) := by decide +kernel
theorem d97_32 : decode prog_8_method_15_code 32 = .ok (.invokevirtual 132, 3) := by decide +kernel
theorem d97_35 : decode prog_8_method_15_code 35 = .ok (.istore_n 1, 1) := by decide +kernel
theorem d97_36 : decode prog_8_method_15_code 36 = .ok (.aload_n 0, 1) := by decide +kernel
theorem d97_37 : decode prog_8_method_15_code 37 = .ok (.getfield 28, 3) := by decide +kernel
theorem d97_40 : decode prog_8_method_15_code 40 = .ok (.invokevirtual 135, 3) := by decide +kernel
theorem d97_43 : decode prog_8_method_15_code 43 = .ok (.iload_n 1, 1) := by decide +kernel
theorem d97_44 : decode prog_8_method_15_code 44 = .ok (.ireturn, 1) := by decide +kernel
theorem b97 {X : mj_X} {d : Nat} {w : mj_W} {x0 : Nat} : mj_call X d 97 [.ref x0] w = mj_exec X d 97 0 [some (.ref x0), none] [] w := mw_ent mw_m97 (Nat.le_of_ble_eq_true rfl) rfl
theorem b97_0 {X : mj_X} {d : Nat} {s : mw_S} {l1 : Option Value}  : mj_exec X (d + 1) 97 0 [some (.ref 22), l1] [] (mw_U s) = (mj_call X d 116 [.ref 27] (mw_U s)).bind (mj_bk X (d + 1) 97 7 [some (.ref 22), l1] []) := (mj_q_aload_n mw_m97 d97_0 rfl (by decide)).trans ((mw_q_getr mw_m97 d97_1 mw_p5_28 mw_c_22 mw_f_22_2).trans (mw_q_callv mw_m97 rfl d97_4 mw_p5_126 mw_m116 rfl rfl (Nat.le_of_ble_eq_true rfl) (Nat.le_of_ble_eq_true rfl) rfl (mw_rcv mw_c_27) rfl rfl))
theorem b97_7 {X : mj_X} {d : Nat} {s : mw_S} {l1 : Option Value} {xs0 : Int32}  : mj_exec X d 97 7 [some (.ref 22), l1] [.int xs0] (mw_U s) = if xs0 = 0 then mj_exec X d 97 16 [some (.ref 22), l1] [] (mw_U s) else mj_exec X d 97 10 [some (.ref 22), l1] [] (mw_U s) := mj_q_if_eq mw_m97 d97_7 rfl
theorem b97_10 {X : mj_X} {d : Nat} {s : mw_S} {l1 : Option Value}  : mj_exec X (d + 1) 97 10 [some (.ref 22), l1] [] (mw_U s) = (mj_call X d 92 [.ref 22, .int (nI 5)] (mw_U s)).bind (mj_bk X (d + 1) 97 15 [some (.ref 22), l1] []) := (mj_q_aload_n mw_m97 d97_10 rfl (by decide)).trans ((mj_q_iconst mw_m97 d97_11 mw_k_iconst_5).trans (mw_q_callv mw_m97 rfl d97_12 mw_p5_62 mw_m92 rfl rfl (Nat.le_of_ble_eq_true rfl) (Nat.le_of_ble_eq_true rfl) rfl (mw_rcv mw_c_22) rfl rfl))
theorem b97_15 {X : mj_X} {d : Nat} {s : mw_S} {l1 : Option Value} {xs0 : Int32}  : mj_exec X d 97 15 [some (.ref 22), l1] [.int xs0] (mw_U s) = if mj_rfit (some .boolean) xs0 = true then some (.inl (some (.int xs0)), mw_U s) else none := mw_h_iret mw_m97 d97_15 rfl
theorem b97_16 {X : mj_X} {d : Nat} {s : mw_S} {l1 : Option Value}  : mj_exec X (d + 1) 97 16 [some (.ref 22), l1] [] (mw_U s) = (mj_call X d 131 [.ref 23] (mw_U s)).bind (mj_bk X (d + 1) 97 23 [some (.ref 22), l1] []) := (mj_q_aload_n mw_m97 d97_16 rfl (by decide)).trans ((mw_q_getr mw_m97 d97_17 mw_p5_12 mw_c_22 mw_f_22_0).trans (mw_q_callv mw_m97 rfl d97_20 mw_p5_65 mw_m131 rfl rfl (Nat.le_of_ble_eq_true rfl) (Nat.le_of_ble_eq_true rfl) rfl (mw_rcv mw_c_23) rfl rfl))
theorem b97_23 {X : mj_X} {d : Nat} {s : mw_S} {l1 : Option Value}  : mj_exec X (d + 1) 97 23 [some (.ref 22), l1] [] (mw_U s) = (mj_call X d 122 [.ref 27] (mw_U s)).bind (mj_bk X (d + 1) 97 30 [some (.ref 22), l1] []) := (mj_q_aload_n mw_m97 d97_23 rfl (by decide)).trans ((mw_q_getr mw_m97 d97_24 mw_p5_28 mw_c_22 mw_f_22_2).trans (mw_q_callv mw_m97 rfl d97_27 mw_p5_129 mw_m122 rfl rfl (Nat.le_of_ble_eq_true rfl) (Nat.le_of_ble_eq_true rfl) rfl (mw_rcv mw_c_27) rfl rfl))
theorem b97_30 {X : mj_X} {d : Nat} {s : mw_S} {l1 : Option Value}  : mj_exec X (d + 1) 97 30 [some (.ref 22), l1] [] (mw_U s) = (mj_call X d 98 [.ref 22, .int (nI 0)] (mw_U s)).bind (mj_bk X (d + 1) 97 35 [some (.ref 22), l1] []) := (mj_q_aload_n mw_m97 d97_30 rfl (by decide)).trans ((mj_q_iconst mw_m97 d97_31 mw_k_iconst_0).trans (mw_q_callv mw_m97 rfl d97_32 mw_p5_132 mw_m98 rfl rfl (Nat.le_of_ble_eq_true rfl) (Nat.le_of_ble_eq_true rfl) rfl (mw_rcv mw_c_22) rfl rfl))
theorem b97_35 {X : mj_X} {d : Nat} {s : mw_S} {l1 : Option Value} {xs0 : Int32}  : mj_exec X (d + 1) 97 35 [some (.ref 22), l1] [.int xs0] (mw_U s) = (mj_call X d 124 [.ref 27] (mw_U s)).bind (mj_bk X (d + 1) 97 43 [some (.ref 22), some (.int xs0)] []) := (mj_q_istore_n mw_m97 d97_35 (Nat.le_of_ble_eq_true rfl) rfl rfl).trans ((mj_q_aload_n mw_m97 d97_36 rfl (by decide)).trans ((mw_q_getr mw_m97 d97_37 mw_p5_28 mw_c_22 mw_f_22_2).trans (mw_q_callv mw_m97 rfl d97_40 mw_p5_135 mw_m124 rfl rfl (Nat.le_of_ble_eq_true rfl) (Nat.le_of_ble_eq_true rfl) rfl (mw_rcv mw_c_27) rfl rfl)))
theorem b97_43 {X : mj_X} {d : Nat} {s : mw_S} {x1 : Int32}  : mj_exec X d 97 43 [some (.ref 22), some (.int x1)] [] (mw_U s) = if mj_rfit (some .boolean) x1 = true then some (.inl (some (.int x1)), mw_U s) else none := (mj_q_iload_n mw_m97 d97_43 rfl).trans (mw_h_iret mw_m97 d97_44 rfl)
/-- WivesQuarrels$Reader.readExpr -/
theorem d98_0 : decode prog_8_method_17_code 0 = .ok (.iload_n 1, 1) := by decide +kernel
theorem d98_1 : decode prog_8_method_17_code 1 = .ok (.bipush 6, 2) := by decide +kernel
theorem d98_3 : decode prog_8_method_17_code 3 = .ok (.if_icmp .lt 56, 3) := by decide +kernel
theorem d98_6 : decode prog_8_method_17_code 6 = .ok (.aload_n 0, 1) := by decide +kernel
theorem d98_7 : decode prog_8_method_17_code 7 = .ok (.getfield 12, 3) := by decide +kernel
theorem d98_10 : decode prog_8_method_17_code 10 = .ok (.invokevirtual 47, 3) := by decide +kernel
theorem d98_13 : decode prog_8_method_17_code 13 = .ok (.iconst 2, 1) := by decide +kernel
theorem d98_14 : decode prog_8_method_17_code 14 = .ok (.if_icmp .eq 25, 3) := by decide +kernel
theorem d98_17 : decode prog_8_method_17_code 17 = .ok (.aload_n 0, 1) := by decide +kernel
theorem d98_18 : decode prog_8_method_17_code 18 = .ok (.getfield 12, 3) := by decide +kernel
theorem d98_21 : decode prog_8_method_17_code 21 = .ok (.invokevirtual 147, 3) := by decide +kernel
theorem d98_24 : decode prog_8_method_17_code 24 = .ok (.ifCond .ne 15, 3) := by decide +kernel
theorem d98_27 : decode prog_8_method_17_code 27 = .ok (.aload_n 0, 1) := by decide +kernel
theorem d98_28 : decode prog_8_method_17_code 28 = .ok (.getfield 12, 3) := by decide +kernel
theorem d98_31 : decode prog_8_method_17_code 31 = .ok (.invokevirtual 47, 3) := by decide +kernel
theorem d98_34 : decode prog_8_method_17_code 34 = .ok (.bipush 40, 2) := by decide +kernel
theorem d98_36 : decode prog_8_method_17_code 36 = .ok (.if_icmp .ne 7, 3) := by decide +kernel
theorem d98_39 : decode prog_8_method_17_code 39 = .ok (.iconst 1, 1) := by decide +kernel
theorem d98_40 : decode prog_8_method_17_code 40 = .ok (.goto 4, 3) := by decide +kernel
theorem d98_43 : decode prog_8_method_17_code 43 = .ok (.iconst 0, 1) := by decide +kernel
theorem d98_44 : decode prog_8_method_17_code 44 = .ok (.istore_n 2, 1) := by decide +kernel
theorem d98_45 : decode prog_8_method_17_code 45 = .ok (.aload_n 0, 1) := by decide +kernel
theorem d98_46 : decode prog_8_method_17_code 46 = .ok (.iload_n 2, 1) := by decide +kernel
theorem d98_47 : decode prog_8_method_17_code 47 = .ok (.ifCond .eq 7, 3) := by decide +kernel
theorem d98_50 : decode prog_8_method_17_code 50 = .ok (.iconst 2, 1) := by decide +kernel
theorem d98_51 : decode prog_8_method_17_code 51 = .ok (.goto 4, 3) := by decide +kernel
theorem d98_54 : decode prog_8_method_17_code 54 = .ok (.iconst 1, 1) := by decide +kernel
theorem d98_55 : decode prog_8_method_17_code 55 = .ok (.invokevirtual 62, 3) := by decide +kernel
theorem d98_58 : decode prog_8_method_17_code 58 = .ok (.ireturn, 1) := by decide +kernel
theorem d98_59 : decode prog_8_method_17_code 59 = .ok (.aload_n 0, 1) := by decide +kernel
theorem d98_60 : decode prog_8_method_17_code 60 = .ok (.iload_n 1, 1) := by decide +kernel
theorem d98_61 : decode prog_8_method_17_code 61 = .ok (.invokevirtual 150, 3) := by decide +kernel
theorem d98_64 : decode prog_8_method_17_code 64 = .ok (.istore_n 2, 1) := by decide +kernel
theorem d98_65 : decode prog_8_method_17_code 65 = .ok (.iconst 0, 1) := by decide +kernel
theorem d98_66 : decode prog_8_method_17_code 66 = .ok (.istore_n 3, 1) := by decide +kernel
theorem d98_67 : decode prog_8_method_17_code 67 = .ok (.iload_n 3, 1) := by decide +kernel
theorem d98_68 : decode prog_8_method_17_code 68 = .ok (.sipush 700, 3) := by decide +kernel
theorem d98_71 : decode prog_8_method_17_code 71 = .ok (.if_icmp .ge 48, 3) := by decide +kernel
theorem d98_74 : decode prog_8_method_17_code 74 = .ok (.iload_n 2, 1) := by decide +kernel
theorem d98_75 : decode prog_8_method_17_code 75 = .ok (.ifCond .eq 44, 3) := by decide +kernel
theorem d98_78 : decode prog_8_method_17_code 78 = .ok (.aload_n 0, 1) := by decide +kernel
theorem d98_79 : decode prog_8_method_17_code 79 = .ok (.getfield 12, 3) := by decide +kernel
theorem d98_82 : decode prog_8_method_17_code 82 = .ok (.invokevirtual 47, 3) := by decide +kernel
theorem d98_85 : decode prog_8_method_17_code 85 = .ok (.sipush 206, 3) := by decide +kernel
theorem d98_88 : decode prog_8_method_17_code 88 = .ok (.if_icmp .ne 31, 3) := by decide +kernel
theorem d98_91 : decode prog_8_method_17_code 91 = .ok (.aload_n 0, 1) := by decide +kernel
theorem d98_92 : decode prog_8_method_17_code 92 = .ok (.getfield 12, 3) := by decide +kernel
theorem d98_95 : decode prog_8_method_17_code 95 = .ok (.invokevirtual 65, 3) := by decide +kernel
theorem d98_98 : decode prog_8_method_17_code 98 = .ok (.aload_n 0, 1) := by decide +kernel
theorem d98_99 : decode prog_8_method_17_code 99 = .ok (.iload_n 1, 1) := by decide +kernel
theorem d98_100 : decode prog_8_method_17_code 100 = .ok (.invokevirtual 150, 3) := by decide +kernel
theorem d98_103 : decode prog_8_method_17_code 103 = .ok (.istore_n 2, 1) := by decide +kernel
theorem d98_104 : decode prog_8_method_17_code 104 = .ok (.aload_n 0, 1) := by decide +kernel
theorem d98_105 : decode prog_8_method_17_code 105 = .ok (.getfield 28, 3) := by decide +kernel
theorem d98_108 : decode prog_8_method_17_code 108 = .ok (.bipush (-9), 2) := by decide +kernel
theorem d98_110 : decode prog_8_method_17_code 110 = .ok (.invokevirtual 153, 3) := by decide +kernel
theorem d98_113 : decode prog_8_method_17_code 113 = .ok (.iinc 3 1, 3) := by decide +kernel
theorem d98_116 : decode prog_8_method_17_code 116 = .ok (.goto (-49), 3) := by decide +kernel
theorem d98_119 : decode prog_8_method_17_code 119 = .ok (.iload_n 2, 1) := by decide +kernel
theorem d98_120 : decode prog_8_method_17_code 120 = .ok (.ireturn, 1) := by decide +kernel
theorem b98 {X : mj_X} {d : Nat} {w : mj_W} {x0 : Nat} {x1 : Int32} : mj_call X d 98 [.ref x0, .int x1] w = mj_exec X d 98 0 [some (.ref x0), some (.int x1), none, none] [] w := mw_ent mw_m98 (Nat.le_of_ble_eq_true rfl) rfl
theorem b98_0 {X : mj_X} {d : Nat} {s : mw_S} {x1 : Int32} {l2 : Option Value} {l3 : Option Value}  : mj_exec X d 98 0 [some (.ref 22), some (.int x1), l2, l3] [] (mw_U s) = if x1 < (nI 6) then mj_exec X d 98 59 [some (.ref 22), some (.int x1), l2, l3] [] (mw_U s) else mj_exec X d 98 6 [some (.ref 22), some (.int x1), l2, l3] [] (mw_U s) := (mj_q_iload_n mw_m98 d98_0 rfl).trans ((mj_q_bipush mw_m98 d98_1 mw_k_bipush_6).trans (mj_q_icmp_lt mw_m98 d98_3 rfl))
theorem b98_6 {X : mj_X} {d : Nat} {s : mw_S} {x1 : Int32} {l2 : Option Value} {l3 : Option Value}  : mj_exec X (d + 1) 98 6 [some (.ref 22), some (.int x1), l2, l3] [] (mw_U s) = (mj_call X d 135 [.ref 23] (mw_U s)).bind (mj_bk X (d + 1) 98 13 [some (.ref 22), some (.int x1), l2, l3] []) := (mj_q_aload_n mw_m98 d98_6 rfl (by decide)).trans ((mw_q_getr mw_m98 d98_7 mw_p5_12 mw_c_22 mw_f_22_0).trans (mw_q_callv mw_m98 rfl d98_10 mw_p5_47 mw_m135 rfl rfl (Nat.le_of_ble_eq_true rfl) (Nat.le_of_ble_eq_true rfl) rfl (mw_rcv mw_c_23) rfl rfl))
theorem b98_13 {X : mj_X} {d : Nat} {s : mw_S} {x1 : Int32} {l2 : Option Value} {l3 : Option Value} {xs0 : Int32}  : mj_exec X d 98 13 [some (.ref 22), some (.int x1), l2, l3] [.int xs0] (mw_U s) = if xs0 = (nI 2) then mj_exec X d 98 39 [some (.ref 22), some (.int x1), l2, l3] [] (mw_U s) else mj_exec X d 98 17 [some (.ref 22), some (.int x1), l2, l3] [] (mw_U s) := (mj_q_iconst mw_m98 d98_13 mw_k_iconst_2).trans (mj_q_icmp_eq mw_m98 d98_14 rfl)
theorem b98_17 {X : mj_X} {d : Nat} {s : mw_S} {x1 : Int32} {l2 : Option Value} {l3 : Option Value}  : mj_exec X (d + 1) 98 17 [some (.ref 22), some (.int x1), l2, l3] [] (mw_U s) = (mj_call X d 139 [.ref 23] (mw_U s)).bind (mj_bk X (d + 1) 98 24 [some (.ref 22), some (.int x1), l2, l3] []) := (mj_q_aload_n mw_m98 d98_17 rfl (by decide)).trans ((mw_q_getr mw_m98 d98_18 mw_p5_12 mw_c_22 mw_f_22_0).trans (mw_q_callv mw_m98 rfl d98_21 mw_p5_147 mw_m139 rfl rfl (Nat.le_of_ble_eq_true rfl) (Nat.le_of_ble_eq_true rfl) rfl (mw_rcv mw_c_23) rfl rfl))
theorem b98_24 {X : mj_X} {d : Nat} {s : mw_S} {x1 : Int32} {l2 : Option Value} {l3 : Option Value} {xs0 : Int32}  : mj_exec X d 98 24 [some (.ref 22), some (.int x1), l2, l3] [.int xs0] (mw_U s) = if xs0 = 0 then mj_exec X d 98 27 [some (.ref 22), some (.int x1), l2, l3] [] (mw_U s) else mj_exec X d 98 39 [some (.ref 22), some (.int x1), l2, l3] [] (mw_U s) := mj_q_if_ne mw_m98 d98_24 rfl
theorem b98_27 {X : mj_X} {d : Nat} {s : mw_S} {x1 : Int32} {l2 : Option Value} {l3 : Option Value}  : mj_exec X (d + 1) 98 27 [some (.ref 22), some (.int x1), l2, l3] [] (mw_U s) = (mj_call X d 135 [.ref 23] (mw_U s)).bind (mj_bk X (d + 1) 98 34 [some (.ref 22), some (.int x1), l2, l3] []) := (mj_q_aload_n mw_m98 d98_27 rfl (by decide)).trans ((mw_q_getr mw_m98 d98_28 mw_p5_12 mw_c_22 mw_f_22_0).trans (mw_q_callv mw_m98 rfl d98_31 mw_p5_47 mw_m135 rfl rfl (Nat.le_of_ble_eq_true rfl) (Nat.le_of_ble_eq_true rfl) rfl (mw_rcv mw_c_23) rfl rfl))
theorem b98_34 {X : mj_X} {d : Nat} {s : mw_S} {x1 : Int32} {l2 : Option Value} {l3 : Option Value} {xs0 : Int32}  : mj_exec X d 98 34 [some (.ref 22), some (.int x1), l2, l3] [.int xs0] (mw_U s) = if xs0 = (nI 40) then mj_exec X d 98 39 [some (.ref 22), some (.int x1), l2, l3] [] (mw_U s) else mj_exec X d 98 43 [some (.ref 22), some (.int x1), l2, l3] [] (mw_U s) := (mj_q_bipush mw_m98 d98_34 mw_k_bipush_40).trans (mj_q_icmp_ne mw_m98 d98_36 rfl)
theorem b98_39 {X : mj_X} {d : Nat} {s : mw_S} {x1 : Int32} {l2 : Option Value} {l3 : Option Value}  : mj_exec X d 98 39 [some (.ref 22), some (.int x1), l2, l3] [] (mw_U s) = mj_exec X d 98 44 [some (.ref 22), some (.int x1), l2, l3] [.int (nI 1)] (mw_U s) := (mj_q_iconst mw_m98 d98_39 mw_k_iconst_1).trans (mj_q_goto mw_m98 d98_40 rfl)
theorem b98_43 {X : mj_X} {d : Nat} {s : mw_S} {x1 : Int32} {l2 : Option Value} {l3 : Option Value}  : mj_exec X d 98 43 [some (.ref 22), some (.int x1), l2, l3] [] (mw_U s) = mj_exec X d 98 44 [some (.ref 22), some (.int x1), l2, l3] [.int (nI 0)] (mw_U s) := mj_q_iconst mw_m98 d98_43 mw_k_iconst_0
theorem b98_44 {X : mj_X} {d : Nat} {s : mw_S} {x1 : Int32} {l2 : Option Value} {l3 : Option Value} {xs0 : Int32}  : mj_exec X d 98 44 [some (.ref 22), some (.int x1), l2, l3] [.int xs0] (mw_U s) = if xs0 = 0 then mj_exec X d 98 54 [some (.ref 22), some (.int x1), some (.int xs0), l3] [.ref 22] (mw_U s) else mj_exec X d 98 50 [some (.ref 22), some (.int x1), some (.int xs0), l3] [.ref 22] (mw_U s) := (mj_q_istore_n mw_m98 d98_44 (Nat.le_of_ble_eq_true rfl) rfl rfl).trans ((mj_q_aload_n mw_m98 d98_45 rfl (by decide)).trans ((mj_q_iload_n mw_m98 d98_46 rfl).trans (mj_q_if_eq mw_m98 d98_47 rfl)))
theorem b98_50 {X : mj_X} {d : Nat} {s : mw_S} {x1 : Int32} {x2 : Int32} {l3 : Option Value}  : mj_exec X d 98 50 [some (.ref 22), some (.int x1), some (.int x2), l3] [.ref 22] (mw_U s) = mj_exec X d 98 55 [some (.ref 22), some (.int x1), some (.int x2), l3] [.int (nI 2), .ref 22] (mw_U s) := (mj_q_iconst mw_m98 d98_50 mw_k_iconst_2).trans (mj_q_goto mw_m98 d98_51 rfl)
theorem b98_54 {X : mj_X} {d : Nat} {s : mw_S} {x1 : Int32} {x2 : Int32} {l3 : Option Value}  : mj_exec X d 98 54 [some (.ref 22), some (.int x1), some (.int x2), l3] [.ref 22] (mw_U s) = mj_exec X d 98 55 [some (.ref 22), some (.int x1), some (.int x2), l3] [.int (nI 1), .ref 22] (mw_U s) := mj_q_iconst mw_m98 d98_54 mw_k_iconst_1
theorem b98_55 {X : mj_X} {d : Nat} {s : mw_S} {x1 : Int32} {x2 : Int32} {l3 : Option Value} {xs1 : Int32}  : mj_exec X (d + 1) 98 55 [some (.ref 22), some (.int x1), some (.int x2), l3] [.int xs1, .ref 22] (mw_U s) = (mj_call X d 92 [.ref 22, .int xs1] (mw_U s)).bind (mj_bk X (d + 1) 98 58 [some (.ref 22), some (.int x1), some (.int x2), l3] []) := mw_q_callv mw_m98 rfl d98_55 mw_p5_62 mw_m92 rfl rfl (Nat.le_of_ble_eq_true rfl) (Nat.le_of_ble_eq_true rfl) rfl (mw_rcv mw_c_22) rfl rfl
theorem b98_58 {X : mj_X} {d : Nat} {s : mw_S} {x1 : Int32} {x2 : Int32} {l3 : Option Value} {xs0 : Int32}  : mj_exec X d 98 58 [some (.ref 22), some (.int x1), some (.int x2), l3] [.int xs0] (mw_U s) = if mj_rfit (some .boolean) xs0 = true then some (.inl (some (.int xs0)), mw_U s) else none := mw_h_iret mw_m98 d98_58 rfl
theorem b98_59 {X : mj_X} {d : Nat} {s : mw_S} {x1 : Int32} {l2 : Option Value} {l3 : Option Value}  : mj_exec X (d + 1) 98 59 [some (.ref 22), some (.int x1), l2, l3] [] (mw_U s) = (mj_call X d 99 [.ref 22, .int x1] (mw_U s)).bind (mj_bk X (d + 1) 98 64 [some (.ref 22), some (.int x1), l2, l3] []) := (mj_q_aload_n mw_m98 d98_59 rfl (by decide)).trans ((mj_q_iload_n mw_m98 d98_60 rfl).trans (mw_q_callv mw_m98 rfl d98_61 mw_p5_150 mw_m99 rfl rfl (Nat.le_of_ble_eq_true rfl) (Nat.le_of_ble_eq_true rfl) rfl (mw_rcv mw_c_22) rfl rfl))
theorem b98_64 {X : mj_X} {d : Nat} {s : mw_S} {x1 : Int32} {l2 : Option Value} {l3 : Option Value} {xs0 : Int32}  : mj_exec X d 98 64 [some (.ref 22), some (.int x1), l2, l3] [.int xs0] (mw_U s) = mj_exec X d 98 67 [some (.ref 22), some (.int x1), some (.int xs0), some (.int (nI 0))] [] (mw_U s) := (mj_q_istore_n mw_m98 d98_64 (Nat.le_of_ble_eq_true rfl) rfl rfl).trans ((mj_q_iconst mw_m98 d98_65 mw_k_iconst_0).trans (mj_q_istore_n mw_m98 d98_66 (Nat.le_of_ble_eq_true rfl) rfl rfl))
theorem b98_67 {X : mj_X} {d : Nat} {s : mw_S} {x1 : Int32} {x2 : Int32} {x3 : Int32}  : mj_exec X d 98 67 [some (.ref 22), some (.int x1), some (.int x2), some (.int x3)] [] (mw_U s) = if (nI 700) ≤ x3 then mj_exec X d 98 119 [some (.ref 22), some (.int x1), some (.int x2), some (.int x3)] [] (mw_U s) else mj_exec X d 98 74 [some (.ref 22), some (.int x1), some (.int x2), some (.int x3)] [] (mw_U s) := (mj_q_iload_n mw_m98 d98_67 rfl).trans ((mj_q_sipush mw_m98 d98_68 mw_k_sipush_700).trans (mj_q_icmp_ge mw_m98 d98_71 rfl))
theorem b98_74 {X : mj_X} {d : Nat} {s : mw_S} {x1 : Int32} {x2 : Int32} {x3 : Int32}  : mj_exec X d 98 74 [some (.ref 22), some (.int x1), some (.int x2), some (.int x3)] [] (mw_U s) = if x2 = 0 then mj_exec X d 98 119 [some (.ref 22), some (.int x1), some (.int x2), some (.int x3)] [] (mw_U s) else mj_exec X d 98 78 [some (.ref 22), some (.int x1), some (.int x2), some (.int x3)] [] (mw_U s) := (mj_q_iload_n mw_m98 d98_74 rfl).trans (mj_q_if_eq mw_m98 d98_75 rfl)
theorem b98_78 {X : mj_X} {d : Nat} {s : mw_S} {x1 : Int32} {x2 : Int32} {x3 : Int32}  : mj_exec X (d + 1) 98 78 [some (.ref 22), some (.int x1), some (.int x2), some (.int x3)] [] (mw_U s) = (mj_call X d 135 [.ref 23] (mw_U s)).bind (mj_bk X (d + 1) 98 85 [some (.ref 22), some (.int x1), some (.int x2), some (.int x3)] []) := (mj_q_aload_n mw_m98 d98_78 rfl (by decide)).trans ((mw_q_getr mw_m98 d98_79 mw_p5_12 mw_c_22 mw_f_22_0).trans (mw_q_callv mw_m98 rfl d98_82 mw_p5_47 mw_m135 rfl rfl (Nat.le_of_ble_eq_true rfl) (Nat.le_of_ble_eq_true rfl) rfl (mw_rcv mw_c_23) rfl rfl))
theorem b98_85 {X : mj_X} {d : Nat} {s : mw_S} {x1 : Int32} {x2 : Int32} {x3 : Int32} {xs0 : Int32}  : mj_exec X d 98 85 [some (.ref 22), some (.int x1), some (.int x2), some (.int x3)] [.int xs0] (mw_U s) = if xs0 = (nI 206) then mj_exec X d 98 91 [some (.ref 22), some (.int x1), some (.int x2), some (.int x3)] [] (mw_U s) else mj_exec X d 98 119 [some (.ref 22), some (.int x1), some (.int x2), some (.int x3)] [] (mw_U s) := (mj_q_sipush mw_m98 d98_85 mw_k_sipush_206).trans (mj_q_icmp_ne mw_m98 d98_88 rfl)
theorem b98_91 {X : mj_X} {d : Nat} {s : mw_S} {x1 : Int32} {x2 : Int32} {x3 : Int32}  : mj_exec X (d + 1) 98 91 [some (.ref 22), some (.int x1), some (.int x2), some (.int x3)] [] (mw_U s) = (mj_call X d 131 [.ref 23] (mw_U s)).bind (mj_bk X (d + 1) 98 98 [some (.ref 22), some (.int x1), some (.int x2), some (.int x3)] []) := (mj_q_aload_n mw_m98 d98_91 rfl (by decide)).trans ((mw_q_getr mw_m98 d98_92 mw_p5_12 mw_c_22 mw_f_22_0).trans (mw_q_callv mw_m98 rfl d98_95 mw_p5_65 mw_m131 rfl rfl (Nat.le_of_ble_eq_true rfl) (Nat.le_of_ble_eq_true rfl) rfl (mw_rcv mw_c_23) rfl rfl))
theorem b98_98 {X : mj_X} {d : Nat} {s : mw_S} {x1 : Int32} {x2 : Int32} {x3 : Int32}  : mj_exec X (d + 1) 98 98 [some (.ref 22), some (.int x1), some (.int x2), some (.int x3)] [] (mw_U s) = (mj_call X d 99 [.ref 22, .int x1] (mw_U s)).bind (mj_bk X (d + 1) 98 103 [some (.ref 22), some (.int x1), some (.int x2), some (.int x3)] []) := (mj_q_aload_n mw_m98 d98_98 rfl (by decide)).trans ((mj_q_iload_n mw_m98 d98_99 rfl).trans (mw_q_callv mw_m98 rfl d98_100 mw_p5_150 mw_m99 rfl rfl (Nat.le_of_ble_eq_true rfl) (Nat.le_of_ble_eq_true rfl) rfl (mw_rcv mw_c_22) rfl rfl))
theorem b98_103 {X : mj_X} {d : Nat} {s : mw_S} {x1 : Int32} {x2 : Int32} {x3 : Int32} {xs0 : Int32}  : mj_exec X (d + 1) 98 103 [some (.ref 22), some (.int x1), some (.int x2), some (.int x3)] [.int xs0] (mw_U s) = (mj_call X d 123 [.ref 27, .int (-9)] (mw_U s)).bind (mj_bk X (d + 1) 98 113 [some (.ref 22), some (.int x1), some (.int xs0), some (.int x3)] []) := (mj_q_istore_n mw_m98 d98_103 (Nat.le_of_ble_eq_true rfl) rfl rfl).trans ((mj_q_aload_n mw_m98 d98_104 rfl (by decide)).trans ((mw_q_getr mw_m98 d98_105 mw_p5_28 mw_c_22 mw_f_22_2).trans ((mj_q_bipush mw_m98 d98_108 mw_k_bipush_m9).trans (mw_q_callv mw_m98 rfl d98_110 mw_p5_153 mw_m123 rfl rfl (Nat.le_of_ble_eq_true rfl) (Nat.le_of_ble_eq_true rfl) rfl (mw_rcv mw_c_27) rfl rfl))))
theorem b98_113 {X : mj_X} {d : Nat} {s : mw_S} {x1 : Int32} {x2 : Int32} {x3 : Int32}  : mj_exec X d 98 113 [some (.ref 22), some (.int x1), some (.int x2), some (.int x3)] [] (mw_U s) = mj_exec X d 98 67 [some (.ref 22), some (.int x1), some (.int x2), some (.int (x3 + (nI 1)))] [] (mw_U s) := (mj_q_iinc mw_m98 d98_113 rfl (Nat.le_of_ble_eq_true rfl) rfl mw_k_iconst_1 rfl).trans (mj_q_goto mw_m98 d98_116 rfl)
theorem b98_119 {X : mj_X} {d : Nat} {s : mw_S} {x1 : Int32} {x2 : Int32} {x3 : Int32}  : mj_exec X d 98 119 [some (.ref 22), some (.int x1), some (.int x2), some (.int x3)] [] (mw_U s) = if mj_rfit (some .boolean) x2 = true then some (.inl (some (.int x2)), mw_U s) else none := (mj_q_iload_n mw_m98 d98_119 rfl).trans (mw_h_iret mw_m98 d98_120 rfl)
/-- WivesQuarrels$Reader.readAnd -/
theorem d99_0 : decode prog_8_method_18_code 0 = .ok (.aload_n 0, 1) := by decide +kernel
theorem d99_1 : decode prog_8_method_18_code 1 = .ok (.iload_n 1, 1) := by decide +kernel
theorem d99_2 : decode prog_8_method_18_code 2 = .ok (.invokevirtual 156, 3) := by decide +kernel
theorem d99_5 : decode prog_8_method_18_code 5 = .ok (.istore_n 2, 1) := by decide +kernel
theorem d99_6 : decode prog_8_method_18_code 6 = .ok (.iconst 0, 1) := by decide +kernel
theorem d99_7 : decode prog_8_method_18_code 7 = .ok (.istore_n 3, 1) := by decide +kernel
theorem d99_8 : decode prog_8_method_18_code 8 = .ok (.iload_n 3, 1) := by decide +kernel
theorem d99_9 : decode prog_8_method_18_code 9 = .ok (.sipush 700, 3) := by decide +kernel
theorem d99_12 : decode prog_8_method_18_code 12 = .ok (.if_icmp .ge 48, 3) := by decide +kernel
theorem d99_15 : decode prog_8_method_18_code 15 = .ok (.iload_n 2, 1) := by decide +kernel
theorem d99_16 : decode prog_8_method_18_code 16 = .ok (.ifCond .eq 44, 3) := by decide +kernel
theorem d99_19 : decode prog_8_method_18_code 19 = .ok (.aload_n 0, 1) := by decide +kernel
theorem d99_20 : decode prog_8_method_18_code 20 = .ok (.getfield 12, 3) := by decide +kernel
theorem d99_23 : decode prog_8_method_18_code 23 = .ok (.invokevirtual 47, 3) := by decide +kernel
theorem d99_26 : decode prog_8_method_18_code 26 = .ok (.sipush 207, 3) := by decide +kernel
theorem d99_29 : decode prog_8_method_18_code 29 = .ok (.if_icmp .ne 31, 3) := by decide +kernel
theorem d99_32 : decode prog_8_method_18_code 32 = .ok (.aload_n 0, 1) := by decide +kernel
theorem d99_33 : decode prog_8_method_18_code 33 = .ok (.getfield 12, 3) := by decide +kernel
theorem d99_36 : decode prog_8_method_18_code 36 = .ok (.invokevirtual 65, 3) := by decide +kernel
theorem d99_39 : decode prog_8_method_18_code 39 = .ok (.aload_n 0, 1) := by decide +kernel
theorem d99_40 : decode prog_8_method_18_code 40 = .ok (.iload_n 1, 1) := by decide +kernel
theorem d99_41 : decode prog_8_method_18_code 41 = .ok (.invokevirtual 156, 3) := by decide +kernel
theorem d99_44 : decode prog_8_method_18_code 44 = .ok (.istore_n 2, 1) := by decide +kernel
theorem d99_45 : decode prog_8_method_18_code 45 = .ok (.aload_n 0, 1) := by decide +kernel
theorem d99_46 : decode prog_8_method_18_code 46 = .ok (.getfield 28, 3) := by decide +kernel
theorem d99_49 : decode prog_8_method_18_code 49 = .ok (.bipush (-8), 2) := by decide +kernel
theorem d99_51 : decode prog_8_method_18_code 51 = .ok (.invokevirtual 153, 3) := by decide +kernel
theorem d99_54 : decode prog_8_method_18_code 54 = .ok (.iinc 3 1, 3) := by decide +kernel
theorem d99_57 : decode prog_8_method_18_code 57 = .ok (.goto (-49), 3) := by decide +kernel
theorem d99_60 : decode prog_8_method_18_code 60 = .ok (.iload_n 2, 1) := by decide +kernel
theorem d99_61 : decode prog_8_method_18_code 61 = .ok (.ireturn, 1) := by decide +kernel
theorem b99 {X : mj_X} {d : Nat} {w : mj_W} {x0 : Nat} {x1 : Int32} : mj_call X d 99 [.ref x0, .int x1] w = mj_exec X d 99 0 [some (.ref x0), some (.int x1), none, none] [] w := mw_ent mw_m99 (Nat.le_of_ble_eq_true rfl) rfl
theorem b99_0 {X : mj_X} {d : Nat} {s : mw_S} {x1 : Int32} {l2 : Option Value} {l3 : Option Value}  : mj_exec X (d + 1) 99 0 [some (.ref 22), some (.int x1), l2, l3] [] (mw_U s) = (mj_call X d 100 [.ref 22, .int x1] (mw_U s)).bind (mj_bk X (d + 1) 99 5 [some (.ref 22), some (.int x1), l2, l3] []) := (mj_q_aload_n mw_m99 d99_0 rfl (by decide)).trans ((mj_q_iload_n mw_m99 d99_1 rfl).trans (mw_q_callv mw_m99 rfl d99_2 mw_p5_156 mw_m100 rfl rfl (Nat.le_of_ble_eq_true rfl) (Nat.le_of_ble_eq_true rfl) rfl (mw_rcv mw_c_22) rfl rfl))
theorem b99_5 {X : mj_X} {d : Nat} {s : mw_S} {x1 : Int32} {l2 : Option Value} {l3 : Option Value} {xs0 : Int32}  : mj_exec X d 99 5 [some (.ref 22), some (.int x1), l2, l3] [.int xs0] (mw_U s) = mj_exec X d 99 8 [some (.ref 22), some (.int x1), some (.int xs0), some (.int (nI 0))] [] (mw_U s) := (mj_q_istore_n mw_m99 d99_5 (Nat.le_of_ble_eq_true rfl) rfl rfl).trans ((mj_q_iconst mw_m99 d99_6 mw_k_iconst_0).trans (mj_q_istore_n mw_m99 d99_7 (Nat.le_of_ble_eq_true rfl) rfl rfl))
theorem b99_8 {X : mj_X} {d : Nat} {s : mw_S} {x1 : Int32} {x2 : Int32} {x3 : Int32}  : mj_exec X d 99 8 [some (.ref 22), some (.int x1), some (.int x2), some (.int x3)] [] (mw_U s) = if (nI 700) ≤ x3 then mj_exec X d 99 60 [some (.ref 22), some (.int x1), some (.int x2), some (.int x3)] [] (mw_U s) else mj_exec X d 99 15 [some (.ref 22), some (.int x1), some (.int x2), some (.int x3)] [] (mw_U s) := (mj_q_iload_n mw_m99 d99_8 rfl).trans ((mj_q_sipush mw_m99 d99_9 mw_k_sipush_700).trans (mj_q_icmp_ge mw_m99 d99_12 rfl))
theorem b99_15 {X : mj_X} {d : Nat} {s : mw_S} {x1 : Int32} {x2 : Int32} {x3 : Int32}  : mj_exec X d 99 15 [some (.ref 22), some (.int x1), some (.int x2), some (.int x3)] [] (mw_U s) = if x2 = 0 then mj_exec X d 99 60 [some (.ref 22), some (.int x1), some (.int x2), some (.int x3)] [] (mw_U s) else mj_exec X d 99 19 [some (.ref 22), some (.int x1), some (.int x2), some (.int x3)] [] (mw_U s) := (mj_q_iload_n mw_m99 d99_15 rfl).trans (mj_q_if_eq mw_m99 d99_16 rfl)
theorem b99_19 {X : mj_X} {d : Nat} {s : mw_S} {x1 : Int32} {x2 : Int32} {x3 : Int32}  : mj_exec X (d + 1) 99 19 [some (.ref 22), some (.int x1), some (.int x2), some (.int x3)] [] (mw_U s) = (mj_call X d 135 [.ref 23] (mw_U s)).bind (mj_bk X (d + 1) 99 26 [some (.ref 22), some (.int x1), some (.int x2), some (.int x3)] []) := (mj_q_aload_n mw_m99 d99_19 rfl (by decide)).trans ((mw_q_getr mw_m99 d99_20 mw_p5_12 mw_c_22 mw_f_22_0).trans (mw_q_callv mw_m99 rfl d99_23 mw_p5_47 mw_m135 rfl rfl (Nat.le_of_ble_eq_true rfl) (Nat.le_of_ble_eq_true rfl) rfl (mw_rcv mw_c_23) rfl rfl))
theorem b99_26 {X : mj_X} {d : Nat} {s : mw_S} {x1 : Int32} {x2 : Int32} {x3 : Int32} {xs0 : Int32}  : mj_exec X d 99 26 [some (.ref 22), some (.int x1), some (.int x2), some (.int x3)] [.int xs0] (mw_U s) = if xs0 = (nI 207) then mj_exec X d 99 32 [some (.ref 22), some (.int x1), some (.int x2), some (.int x3)] [] (mw_U s) else mj_exec X d 99 60 [some (.ref 22), some (.int x1), some (.int x2), some (.int x3)] [] (mw_U s) := (mj_q_sipush mw_m99 d99_26 mw_k_sipush_207).trans (mj_q_icmp_ne mw_m99 d99_29 rfl)
theorem b99_32 {X : mj_X} {d : Nat} {s : mw_S} {x1 : Int32} {x2 : Int32} {x3 : Int32}  : mj_exec X (d + 1) 99 32 [some (.ref 22), some (.int x1), some (.int x2), some (.int x3)] [] (mw_U s) = (mj_call X d 131 [.ref 23] (mw_U s)).bind (mj_bk X (d + 1) 99 39 [some (.ref 22), some (.int x1), some (.int x2), some (.int x3)] []) := (mj_q_aload_n mw_m99 d99_32 rfl (by decide)).trans ((mw_q_getr mw_m99 d99_33 mw_p5_12 mw_c_22 mw_f_22_0).trans (mw_q_callv mw_m99 rfl d99_36 mw_p5_65 mw_m131 rfl rfl (Nat.le_of_ble_eq_true rfl) (Nat.le_of_ble_eq_true rfl) rfl (mw_rcv mw_c_23) rfl rfl))
theorem b99_39 {X : mj_X} {d : Nat} {s : mw_S} {x1 : Int32} {x2 : Int32} {x3 : Int32}  : mj_exec X (d + 1) 99 39 [some (.ref 22), some (.int x1), some (.int x2), some (.int x3)] [] (mw_U s) = (mj_call X d 100 [.ref 22, .int x1] (mw_U s)).bind (mj_bk X (d + 1) 99 44 [some (.ref 22), some (.int x1), some (.int x2), some (.int x3)] []) := (mj_q_aload_n mw_m99 d99_39 rfl (by decide)).trans ((mj_q_iload_n mw_m99 d99_40 rfl).trans (mw_q_callv mw_m99 rfl d99_41 mw_p5_156 mw_m100 rfl rfl (Nat.le_of_ble_eq_true rfl) (Nat.le_of_ble_eq_true rfl) rfl (mw_rcv mw_c_22) rfl rfl))
theorem b99_44 {X : mj_X} {d : Nat} {s : mw_S} {x1 : Int32} {x2 : Int32} {x3 : Int32} {xs0 : Int32}  : mj_exec X (d + 1) 99 44 [some (.ref 22), some (.int x1), some (.int x2), some (.int x3)] [.int xs0] (mw_U s) = (mj_call X d 123 [.ref 27, .int (-8)] (mw_U s)).bind (mj_bk X (d + 1) 99 54 [some (.ref 22), some (.int x1), some (.int xs0), some (.int x3)] []) := (mj_q_istore_n mw_m99 d99_44 (Nat.le_of_ble_eq_true rfl) rfl rfl).trans ((mj_q_aload_n mw_m99 d99_45 rfl (by decide)).trans ((mw_q_getr mw_m99 d99_46 mw_p5_28 mw_c_22 mw_f_22_2).trans ((mj_q_bipush mw_m99 d99_49 mw_k_bipush_m8).trans (mw_q_callv mw_m99 rfl d99_51 mw_p5_153 mw_m123 rfl rfl (Nat.le_of_ble_eq_true rfl) (Nat.le_of_ble_eq_true rfl) rfl (mw_rcv mw_c_27) rfl rfl))))
theorem b99_54 {X : mj_X} {d : Nat} {s : mw_S} {x1 : Int32} {x2 : Int32} {x3 : Int32}  : mj_exec X d 99 54 [some (.ref 22), some (.int x1), some (.int x2), some (.int x3)] [] (mw_U s) = mj_exec X d 99 8 [some (.ref 22), some (.int x1), some (.int x2), some (.int (x3 + (nI 1)))] [] (mw_U s) := (mj_q_iinc mw_m99 d99_54 rfl (Nat.le_of_ble_eq_true rfl) rfl mw_k_iconst_1 rfl).trans (mj_q_goto mw_m99 d99_57 rfl)
theorem b99_60 {X : mj_X} {d : Nat} {s : mw_S} {x1 : Int32} {x2 : Int32} {x3 : Int32}  : mj_exec X d 99 60 [some (.ref 22), some (.int x1), some (.int x2), some (.int x3)] [] (mw_U s) = if mj_rfit (some .boolean) x2 = true then some (.inl (some (.int x2)), mw_U s) else none := (mj_q_iload_n mw_m99 d99_60 rfl).trans (mw_h_iret mw_m99 d99_61 rfl)
/-- WivesQuarrels$Reader.readNot -/
theorem d100_0 : decode prog_8_method_19_code 0 = .ok (.iconst 0, 1) := by decide +kernel
theorem d100_1 : decode prog_8_method_19_code 1 = .ok (.istore_n 2, 1) := by decide +kernel
theorem d100_2 : decode prog_8_method_19_code 2 = .ok (.iload_n 2, 1) := by decide +kernel
theorem d100_3 : decode prog_8_method_19_code 3 = .ok (.bipush 6, 2) := by decide +kernel
theorem d100_5 : decode prog_8_method_19_code 5 = .ok (.if_icmp .ge 29, 3) := by decide +kernel
theorem d100_8 : decode prog_8_method_19_code 8 = .ok (.aload_n 0, 1) := by decide +kernel
theorem d100_9 : decode prog_8_method_19_code 9 = .ok (.getfield 12, 3) := by decide +kernel
theorem d100_12 : decode prog_8_method_19_code 12 = .ok (.invokevirtual 47, 3) := by decide +kernel
theorem d100_15 : decode prog_8_method_19_code 15 = .ok (.sipush 208, 3) := by decide +kernel
theorem d100_18 : decode prog_8_method_19_code 18 = .ok (.if_icmp .ne 16, 3) := by decide +kernel
theorem d100_21 : decode prog_8_method_19_code 21 = .ok (.aload_n 0, 1) := by decide +kernel
theorem d100_22 : decode prog_8_method_19_code 22 = .ok (.getfield 12, 3) := by decide +kernel
theorem d100_25 : decode prog_8_method_19_code 25 = .ok (.invokevirtual 65, 3) := by decide +kernel
theorem d100_28 : decode prog_8_method_19_code 28 = .ok (.iinc 2 1, 3) := by decide +kernel
theorem d100_31 : decode prog_8_method_19_code 31 = .ok (.goto (-29), 3) := by decide +kernel
theorem d100_34 : decode prog_8_method_19_code 34 = .ok (.aload_n 0, 1) := by decide +kernel
theorem d100_35 : decode prog_8_method_19_code 35 = .ok (.getfield 12, 3) := by decide +kernel
theorem d100_38 : decode prog_8_method_19_code 38 = .ok (.invokevirtual 47, 3) := by decide +kernel
theorem d100_41 : decode prog_8_method_19_code 41 = .ok (.sipush 208, 3) := by decide +kernel
theorem d100_44 : decode prog_8_method_19_code 44 = .ok (.if_icmp .ne 9, 3) := by decide +kernel
theorem d100_47 : decode prog_8_method_19_code 47 = .ok (.aload_n 0, 1) := by decide +kernel
theorem d100_48 : decode prog_8_method_19_code 48 = .ok (.iconst 2, 1) := by decide +kernel
theorem d100_49 : decode prog_8_method_19_code 49 = .ok (.invokevirtual 62, 3) := by decide +kernel
theorem d100_52 : decode prog_8_method_19_code 52 = .ok (.ireturn, 1) := by decide +kernel
theorem d100_53 : decode prog_8_method_19_code 53 = .ok (.aload_n 0, 1) := by decide +kernel
theorem d100_54 : decode prog_8_method_19_code 54 = .ok (.iload_n 1, 1) := by decide +kernel
theorem d100_55 : decode prog_8_method_19_code 55 = .ok (.invokevirtual 159, 3) := by decide +kernel
theorem d100_58 : decode prog_8_method_19_code 58 = .ok (.istore_n 3, 1) := by decide +kernel
theorem d100_59 : decode prog_8_method_19_code 59 = .ok (.iconst 0, 1) := by decide +kernel
theorem d100_60 : decode prog_8_method_19_code 60 = .ok (.istore 4, 2) := by decide +kernel
theorem d100_62 : decode prog_8_method_19_code 62 = .ok (.iload 4, 2) := by decide +kernel
theorem d100_64 : decode prog_8_method_19_code 64 = .ok (.iload_n 2, 1) := by decide +kernel
theorem d100_65 : decode prog_8_method_19_code 65 = .ok (.if_icmp .ge 18, 3) := by decide +kernel
theorem d100_68 : decode prog_8_method_19_code 68 = .ok (.aload_n 0, 1) := by decide +kernel
theorem d100_69 : decode prog_8_method_19_code 69 = .ok (.getfield 28, 3) := by decide +kernel
theorem d100_72 : decode prog_8_method_19_code 72 = .ok (.bipush (-7), 2) := by decide +kernel
theorem d100_74 : decode prog_8_method_19_code 74 = .ok (.invokevirtual 153, 3) := by decide +kernel
theorem d100_77 : decode prog_8_method_19_code 77 = .ok (.iinc 4 1, 3) := by decide +kernel
theorem d100_80 : decode prog_8_method_19_code 80 = .ok (.goto (-18), 3) := by decide +kernel
theorem d100_83 : decode prog_8_method_19_code 83 = .ok (.iload_n 3, 1) := by decide +kernel
theorem d100_84 : decode prog_8_method_19_code 84 = .ok (.ireturn, 1) := by decide +kernel
theorem b100 {X : mj_X} {d : Nat} {w : mj_W} {x0 : Nat} {x1 : Int32} : mj_call X d 100 [.ref x0, .int x1] w = mj_exec X d 100 0 [some (.ref x0), some (.int x1), none, none, none] [] w := mw_ent mw_m100 (Nat.le_of_ble_eq_true rfl) rfl
theorem b100_0 {X : mj_X} {d : Nat} {s : mw_S} {x1 : Int32} {l2 : Option Value} {l3 : Option Value} {l4 : Option Value}  : mj_exec X d 100 0 [some (.ref 22), some (.int x1), l2, l3, l4] [] (mw_U s) = mj_exec X d 100 2 [some (.ref 22), some (.int x1), some (.int (nI 0)), l3, l4] [] (mw_U s) := (mj_q_iconst mw_m100 d100_0 mw_k_iconst_0).trans (mj_q_istore_n mw_m100 d100_1 (Nat.le_of_ble_eq_true rfl) rfl rfl)
theorem b100_2 {X : mj_X} {d : Nat} {s : mw_S} {x1 : Int32} {x2 : Int32} {l3 : Option Value} {l4 : Option Value}  : mj_exec X d 100 2 [some (.ref 22), some (.int x1), some (.int x2), l3, l4] [] (mw_U s) = if (nI 6) ≤ x2 then mj_exec X d 100 34 [some (.ref 22), some (.int x1), some (.int x2), l3, l4] [] (mw_U s) else mj_exec X d 100 8 [some (.ref 22), some (.int x1), some (.int x2), l3, l4] [] (mw_U s) := (mj_q_iload_n mw_m100 d100_2 rfl).trans ((mj_q_bipush mw_m100 d100_3 mw_k_bipush_6).trans (mj_q_icmp_ge mw_m100 d100_5 rfl))
theorem b100_8 {X : mj_X} {d : Nat} {s : mw_S} {x1 : Int32} {x2 : Int32} {l3 : Option Value} {l4 : Option Value}  : mj_exec X (d + 1) 100 8 [some (.ref 22), some (.int x1), some (.int x2), l3, l4] [] (mw_U s) = (mj_call X d 135 [.ref 23] (mw_U s)).bind (mj_bk X (d + 1) 100 15 [some (.ref 22), some (.int x1), some (.int x2), l3, l4] []) := (mj_q_aload_n mw_m100 d100_8 rfl (by decide)).trans ((mw_q_getr mw_m100 d100_9 mw_p5_12 mw_c_22 mw_f_22_0).trans (mw_q_callv mw_m100 rfl d100_12 mw_p5_47 mw_m135 rfl rfl (Nat.le_of_ble_eq_true rfl) (Nat.le_of_ble_eq_true rfl) rfl (mw_rcv mw_c_23) rfl rfl))
theorem b100_15 {X : mj_X} {d : Nat} {s : mw_S} {x1 : Int32} {x2 : Int32} {l3 : Option Value} {l4 : Option Value} {xs0 : Int32}  : mj_exec X d 100 15 [some (.ref 22), some (.int x1), some (.int x2), l3, l4] [.int xs0] (mw_U s) = if xs0 = (nI 208) then mj_exec X d 100 21 [some (.ref 22), some (.int x1), some (.int x2), l3, l4] [] (mw_U s) else mj_exec X d 100 34 [some (.ref 22), some (.int x1), some (.int x2), l3, l4] [] (mw_U s) := (mj_q_sipush mw_m100 d100_15 mw_k_sipush_208).trans (mj_q_icmp_ne mw_m100 d100_18 rfl)
theorem b100_21 {X : mj_X} {d : Nat} {s : mw_S} {x1 : Int32} {x2 : Int32} {l3 : Option Value} {l4 : Option Value}  : mj_exec X (d + 1) 100 21 [some (.ref 22), some (.int x1), some (.int x2), l3, l4] [] (mw_U s) = (mj_call X d 131 [.ref 23] (mw_U s)).bind (mj_bk X (d + 1) 100 28 [some (.ref 22), some (.int x1), some (.int x2), l3, l4] []) := (mj_q_aload_n mw_m100 d100_21 rfl (by decide)).trans ((mw_q_getr mw_m100 d100_22 mw_p5_12 mw_c_22 mw_f_22_0).trans (mw_q_callv mw_m100 rfl d100_25 mw_p5_65 mw_m131 rfl rfl (Nat.le_of_ble_eq_true rfl) (Nat.le_of_ble_eq_true rfl) rfl (mw_rcv mw_c_23) rfl rfl))
theorem b100_28 {X : mj_X} {d : Nat} {s : mw_S} {x1 : Int32} {x2 : Int32} {l3 : Option Value} {l4 : Option Value}  : mj_exec X d 100 28 [some (.ref 22), some (.int x1), some (.int x2), l3, l4] [] (mw_U s) = mj_exec X d 100 2 [some (.ref 22), some (.int x1), some (.int (x2 + (nI 1))), l3, l4] [] (mw_U s) := (mj_q_iinc mw_m100 d100_28 rfl (Nat.le_of_ble_eq_true rfl) rfl mw_k_iconst_1 rfl).trans (mj_q_goto mw_m100 d100_31 rfl)
theorem b100_34 {X : mj_X} {d : Nat} {s : mw_S} {x1 : Int32} {x2 : Int32} {l3 : Option Value} {l4 : Option Value}  : mj_exec X (d + 1) 100 34 [some (.ref 22), some (.int x1), some (.int x2), l3, l4] [] (mw_U s) = (mj_call X d 135 [.ref 23] (mw_U s)).bind (mj_bk X (d + 1) 100 41 [some (.ref 22), some (.int x1), some (.int x2), l3, l4] []) := (mj_q_aload_n mw_m100 d100_34 rfl (by decide)).trans ((mw_q_getr mw_m100 d100_35 mw_p5_12 mw_c_22 mw_f_22_0).trans (mw_q_callv mw_m100 rfl d100_38 mw_p5_47 mw_m135 rfl rfl (Nat.le_of_ble_eq_true rfl) (Nat.le_of_ble_eq_true rfl) rfl (mw_rcv mw_c_23) rfl rfl))
theorem b100_41 {X : mj_X} {d : Nat} {s : mw_S} {x1 : Int32} {x2 : Int32} {l3 : Option Value} {l4 : Option Value} {xs0 : Int32}  : mj_exec X d 100 41 [some (.ref 22), some (.int x1), some (.int x2), l3, l4] [.int xs0] (mw_U s) = if xs0 = (nI 208) then mj_exec X d 100 47 [some (.ref 22), some (.int x1), some (.int x2), l3, l4] [] (mw_U s) else mj_exec X d 100 53 [some (.ref 22), some (.int x1), some (.int x2), l3, l4] [] (mw_U s) := (mj_q_sipush mw_m100 d100_41 mw_k_sipush_208).trans (mj_q_icmp_ne mw_m100 d100_44 rfl)
theorem b100_47 {X : mj_X} {d : Nat} {s : mw_S} {x1 : Int32} {x2 : Int32} {l3 : Option Value} {l4 : Option Value}  : mj_exec X (d + 1) 100 47 [some (.ref 22), some (.int x1), some (.int x2), l3, l4] [] (mw_U s) = (mj_call X d 92 [.ref 22, .int (nI 2)] (mw_U s)).bind (mj_bk X (d + 1) 100 52 [some (.ref 22), some (.int x1), some (.int x2), l3, l4] []) := (mj_q_aload_n mw_m100 d100_47 rfl (by decide)).trans ((mj_q_iconst mw_m100 d100_48 mw_k_iconst_2).trans (mw_q_callv mw_m100 rfl d100_49 mw_p5_62 mw_m92 rfl rfl (Nat.le_of_ble_eq_true rfl) (Nat.le_of_ble_eq_true rfl) rfl (mw_rcv mw_c_22) rfl rfl))
theorem b100_52 {X : mj_X} {d : Nat} {s : mw_S} {x1 : Int32} {x2 : Int32} {l3 : Option Value} {l4 : Option Value} {xs0 : Int32}  : mj_exec X d 100 52 [some (.ref 22), some (.int x1), some (.int x2), l3, l4] [.int xs0] (mw_U s) = if mj_rfit (some .boolean) xs0 = true then some (.inl (some (.int xs0)), mw_U s) else none := mw_h_iret mw_m100 d100_52 rfl
theorem b100_53 {X : mj_X} {d : Nat} {s : mw_S} {x1 : Int32} {x2 : Int32} {l3 : Option Value} {l4 : Option Value}  : mj_exec X (d + 1) 100 53 [some (.ref 22), some (.int x1), some (.int x2), l3, l4] [] (mw_U s) = (mj_call X d 101 [.ref 22, .int x1] (mw_U s)).bind (mj_bk X (d + 1) 100 58 [some (.ref 22), some (.int x1), some (.int x2), l3, l4] []) := (mj_q_aload_n mw_m100 d100_53 rfl (by decide)).trans ((mj_q_iload_n mw_m100 d100_54 rfl).trans (mw_q_callv mw_m100 rfl d100_55 mw_p5_159 mw_m101 rfl rfl (Nat.le_of_ble_eq_true rfl) (Nat.le_of_ble_eq_true rfl) rfl (mw_rcv mw_c_22) rfl rfl))
theorem b100_58 {X : mj_X} {d : Nat} {s : mw_S} {x1 : Int32} {x2 : Int32} {l3 : Option Value} {l4 : Option Value} {xs0 : Int32}  : mj_exec X d 100 58 [some (.ref 22), some (.int x1), some (.int x2), l3, l4] [.int xs0] (mw_U s) = mj_exec X d 100 62 [some (.ref 22), some (.int x1), some (.int x2), some (.int xs0), some (.int (nI 0))] [] (mw_U s) := (mj_q_istore_n mw_m100 d100_58 (Nat.le_of_ble_eq_true rfl) rfl rfl).trans ((mj_q_iconst mw_m100 d100_59 mw_k_iconst_0).trans (mj_q_istore mw_m100 d100_60 (Nat.le_of_ble_eq_true rfl) rfl rfl))
theorem b100_62 {X : mj_X} {d : Nat} {s : mw_S} {x1 : Int32} {x2 : Int32} {x3 : Int32} {x4 : Int32}  : mj_exec X d 100 62 [some (.ref 22), some (.int x1), some (.int x2), some (.int x3), some (.int x4)] [] (mw_U s) = if x2 ≤ x4 then mj_exec X d 100 83 [some (.ref 22), some (.int x1), some (.int x2), some (.int x3), some (.int x4)] [] (mw_U s) else mj_exec X d 100 68 [some (.ref 22), some (.int x1), some (.int x2), some (.int x3), some (.int x4)] [] (mw_U s) := (mj_q_iload mw_m100 d100_62 rfl).trans ((mj_q_iload_n mw_m100 d100_64 rfl).trans (mj_q_icmp_ge mw_m100 d100_65 rfl))
theorem b100_68 {X : mj_X} {d : Nat} {s : mw_S} {x1 : Int32} {x2 : Int32} {x3 : Int32} {x4 : Int32}  : mj_exec X (d + 1) 100 68 [some (.ref 22), some (.int x1), some (.int x2), some (.int x3), some (.int x4)] [] (mw_U s) = (mj_call X d 123 [.ref 27, .int (-7)] (mw_U s)).bind (mj_bk X (d + 1) 100 77 [some (.ref 22), some (.int x1), some (.int x2), some (.int x3), some (.int x4)] []) := (mj_q_aload_n mw_m100 d100_68 rfl (by decide)).trans ((mw_q_getr mw_m100 d100_69 mw_p5_28 mw_c_22 mw_f_22_2).trans ((mj_q_bipush mw_m100 d100_72 mw_k_bipush_m7).trans (mw_q_callv mw_m100 rfl d100_74 mw_p5_153 mw_m123 rfl rfl (Nat.le_of_ble_eq_true rfl) (Nat.le_of_ble_eq_true rfl) rfl (mw_rcv mw_c_27) rfl rfl)))
theorem b100_77 {X : mj_X} {d : Nat} {s : mw_S} {x1 : Int32} {x2 : Int32} {x3 : Int32} {x4 : Int32}  : mj_exec X d 100 77 [some (.ref 22), some (.int x1), some (.int x2), some (.int x3), some (.int x4)] [] (mw_U s) = mj_exec X d 100 62 [some (.ref 22), some (.int x1), some (.int x2), some (.int x3), some (.int (x4 + (nI 1)))] [] (mw_U s) := (mj_q_iinc mw_m100 d100_77 rfl (Nat.le_of_ble_eq_true rfl) rfl mw_k_iconst_1 rfl).trans (mj_q_goto mw_m100 d100_80 rfl)
theorem b100_83 {X : mj_X} {d : Nat} {s : mw_S} {x1 : Int32} {x2 : Int32} {x3 : Int32} {x4 : Int32}  : mj_exec X d 100 83 [some (.ref 22), some (.int x1), some (.int x2), some (.int x3), some (.int x4)] [] (mw_U s) = if mj_rfit (some .boolean) x3 = true then some (.inl (some (.int x3)), mw_U s) else none := (mj_q_iload_n mw_m100 d100_83 rfl).trans (mw_h_iret mw_m100 d100_84 rfl)
/-- WivesQuarrels$Reader.readTest -/
theorem d101_0 : decode prog_8_method_20_code 0 = .ok (.aload_n 0, 1) := by decide +kernel
theorem d101_1 : decode prog_8_method_20_code 1 = .ok (.iload_n 1, 1) := by decide +kernel
theorem d101_2 : decode prog_8_method_20_code 2 = .ok (.invokevirtual 162, 3) := by decide +kernel
theorem d101_5 : decode prog_8_method_20_code 5 = .ok (.ifCond .ne 5, 3) := by decide +kernel
theorem d101_8 : decode prog_8_method_20_code 8 = .ok (.iconst 0, 1) := by decide +kernel
theorem d101_9 : decode prog_8_method_20_code 9 = .ok (.ireturn, 1) := by decide +kernel
theorem d101_10 : decode prog_8_method_20_code 10 = .ok (.aload_n 0, 1) := by decide +kernel
theorem d101_11 : decode prog_8_method_20_code 11 = .ok (.getfield 12, 3) := by decide +kernel
theorem d101_14 : decode prog_8_method_20_code 14 = .ok (.invokevirtual 47, 3) := by decide +kernel
theorem d101_17 : decode prog_8_method_20_code 17 = .ok (.istore_n 2, 1) := by decide +kernel
theorem d101_18 : decode prog_8_method_20_code 18 = .ok (.iload_n 2, 1) := by decide +kernel
theorem d101_19 : decode prog_8_method_20_code 19 = .ok (.bipush 60, 2) := by decide +kernel
theorem d101_21 : decode prog_8_method_20_code 21 = .ok (.if_icmp .eq 11, 3) := by decide +kernel
theorem d101_24 : decode prog_8_method_20_code 24 = .ok (.iload_n 2, 1) := by decide +kernel
theorem d101_25 : decode prog_8_method_20_code 25 = .ok (.bipush 61, 2) := by decide +kernel
theorem d101_27 : decode prog_8_method_20_code 27 = .ok (.if_icmp .eq 5, 3) := by decide +kernel
theorem d101_30 : decode prog_8_method_20_code 30 = .ok (.iconst 1, 1) := by decide +kernel
theorem d101_31 : decode prog_8_method_20_code 31 = .ok (.ireturn, 1) := by decide +kernel
theorem d101_32 : decode prog_8_method_20_code 32 = .ok (.aload_n 0, 1) := by decide +kernel
theorem d101_33 : decode prog_8_method_20_code 33 = .ok (.getfield 12, 3) := by decide +kernel
theorem d101_36 : decode prog_8_method_20_code 36 = .ok (.invokevirtual 65, 3) := by decide +kernel
theorem d101_39 : decode prog_8_method_20_code 39 = .ok (.aload_n 0, 1) := by decide +kernel
theorem d101_40 : decode prog_8_method_20_code 40 = .ok (.iload_n 1, 1) := by decide +kernel
theorem d101_41 : decode prog_8_method_20_code 41 = .ok (.invokevirtual 162, 3) := by decide +kernel
theorem d101_44 : decode prog_8_method_20_code 44 = .ok (.istore_n 3, 1) := by decide +kernel
theorem d101_45 : decode prog_8_method_20_code 45 = .ok (.aload_n 0, 1) := by decide +kernel
theorem d101_46 : decode prog_8_method_20_code 46 = .ok (.getfield 28, 3) := by decide +kernel
theorem d101_49 : decode prog_8_method_20_code 49 = .ok (.iload_n 2, 1) := by decide +kernel
theorem d101_50 : decode prog_8_method_20_code 50 = .ok (.bipush 60, 2) := by decide +kernel
theorem d101_52 : decode prog_8_method_20_code 52 = .ok (.if_icmp .ne 8, 3) := by decide +kernel
theorem d101_55 : decode prog_8_method_20_code 55 = .ok (.bipush (-10), 2) := by decide +kernel
theorem d101_57 : decode prog_8_method_20_code 57 = .ok (.goto 5, 3) := by decide +kernel
theorem d101_60 : decode prog_8_method_20_code 60 = .ok (.bipush (-11), 2) := by decide +kernel
theorem d101_62 : decode prog_8_method_20_code 62 = .ok (.invokevirtual 153, 3) := by decide +kernel
theorem d101_65 : decode prog_8_method_20_code 65 = .ok (.iload_n 3, 1) := by decide +kernel
theorem d101_66 : decode prog_8_method_20_code 66 = .ok (.ireturn, 1) := by decide +kernel
theorem b101 {X : mj_X} {d : Nat} {w : mj_W} {x0 : Nat} {x1 : Int32} : mj_call X d 101 [.ref x0, .int x1] w = mj_exec X d 101 0 [some (.ref x0), some (.int x1), none, none] [] w := mw_ent mw_m101 (Nat.le_of_ble_eq_true rfl) rfl
theorem b101_0 {X : mj_X} {d : Nat} {s : mw_S} {x1 : Int32} {l2 : Option Value} {l3 : Option Value}  : mj_exec X (d + 1) 101 0 [some (.ref 22), some (.int x1), l2, l3] [] (mw_U s) = (mj_call X d 102 [.ref 22, .int x1] (mw_U s)).bind (mj_bk X (d + 1) 101 5 [some (.ref 22), some (.int x1), l2, l3] []) := (mj_q_aload_n mw_m101 d101_0 rfl (by decide)).trans ((mj_q_iload_n mw_m101 d101_1 rfl).trans (mw_q_callv mw_m101 rfl d101_2 mw_p5_162 mw_m102 rfl rfl (Nat.le_of_ble_eq_true rfl) (Nat.le_of_ble_eq_true rfl) rfl (mw_rcv mw_c_22) rfl rfl))
theorem b101_5 {X : mj_X} {d : Nat} {s : mw_S} {x1 : Int32} {l2 : Option Value} {l3 : Option Value} {xs0 : Int32}  : mj_exec X d 101 5 [some (.ref 22), some (.int x1), l2, l3] [.int xs0] (mw_U s) = if xs0 = 0 then mj_exec X d 101 8 [some (.ref 22), some (.int x1), l2, l3] [] (mw_U s) else mj_exec X d 101 10 [some (.ref 22), some (.int x1), l2, l3] [] (mw_U s) := mj_q_if_ne mw_m101 d101_5 rfl
theorem b101_8 {X : mj_X} {d : Nat} {s : mw_S} {x1 : Int32} {l2 : Option Value} {l3 : Option Value}  : mj_exec X d 101 8 [some (.ref 22), some (.int x1), l2, l3] [] (mw_U s) = some (.inl (some (.int (nI 0))), mw_U s) := (mj_q_iconst mw_m101 d101_8 mw_k_iconst_0).trans (mj_q_iret mw_m101 d101_9 (by decide))
theorem b101_10 {X : mj_X} {d : Nat} {s : mw_S} {x1 : Int32} {l2 : Option Value} {l3 : Option Value}  : mj_exec X (d + 1) 101 10 [some (.ref 22), some (.int x1), l2, l3] [] (mw_U s) = (mj_call X d 135 [.ref 23] (mw_U s)).bind (mj_bk X (d + 1) 101 17 [some (.ref 22), some (.int x1), l2, l3] []) := (mj_q_aload_n mw_m101 d101_10 rfl (by decide)).trans ((mw_q_getr mw_m101 d101_11 mw_p5_12 mw_c_22 mw_f_22_0).trans (mw_q_callv mw_m101 rfl d101_14 mw_p5_47 mw_m135 rfl rfl (Nat.le_of_ble_eq_true rfl) (Nat.le_of_ble_eq_true rfl) rfl (mw_rcv mw_c_23) rfl rfl))
theorem b101_17 {X : mj_X} {d : Nat} {s : mw_S} {x1 : Int32} {l2 : Option Value} {l3 : Option Value} {xs0 : Int32}  : mj_exec X d 101 17 [some (.ref 22), some (.int x1), l2, l3] [.int xs0] (mw_U s) = if xs0 = (nI 60) then mj_exec X d 101 32 [some (.ref 22), some (.int x1), some (.int xs0), l3] [] (mw_U s) else mj_exec X d 101 24 [some (.ref 22), some (.int x1), some (.int xs0), l3] [] (mw_U s) := (mj_q_istore_n mw_m101 d101_17 (Nat.le_of_ble_eq_true rfl) rfl rfl).trans ((mj_q_iload_n mw_m101 d101_18 rfl).trans ((mj_q_bipush mw_m101 d101_19 mw_k_bipush_60).trans (mj_q_icmp_eq mw_m101 d101_21 rfl)))
theorem b101_24 {X : mj_X} {d : Nat} {s : mw_S} {x1 : Int32} {x2 : Int32} {l3 : Option Value}  : mj_exec X d 101 24 [some (.ref 22), some (.int x1), some (.int x2), l3] [] (mw_U s) = if x2 = (nI 61) then mj_exec X d 101 32 [some (.ref 22), some (.int x1), some (.int x2), l3] [] (mw_U s) else mj_exec X d 101 30 [some (.ref 22), some (.int x1), some (.int x2), l3] [] (mw_U s) := (mj_q_iload_n mw_m101 d101_24 rfl).trans ((mj_q_bipush mw_m101 d101_25 mw_k_bipush_61).trans (mj_q_icmp_eq mw_m101 d101_27 rfl))
theorem b101_30 {X : mj_X} {d : Nat} {s : mw_S} {x1 : Int32} {x2 : Int32} {l3 : Option Value}  : mj_exec X d 101 30 [some (.ref 22), some (.int x1), some (.int x2), l3] [] (mw_U s) = some (.inl (some (.int (nI 1))), mw_U s) := (mj_q_iconst mw_m101 d101_30 mw_k_iconst_1).trans (mj_q_iret mw_m101 d101_31 (by decide))
theorem b101_32 {X : mj_X} {d : Nat} {s : mw_S} {x1 : Int32} {x2 : Int32} {l3 : Option Value}  : mj_exec X (d + 1) 101 32 [some (.ref 22), some (.int x1), some (.int x2), l3] [] (mw_U s) = (mj_call X d 131 [.ref 23] (mw_U s)).bind (mj_bk X (d + 1) 101 39 [some (.ref 22), some (.int x1), some (.int x2), l3] []) := (mj_q_aload_n mw_m101 d101_32 rfl (by decide)).trans ((mw_q_getr mw_m101 d101_33 mw_p5_12 mw_c_22 mw_f_22_0).trans (mw_q_callv mw_m101 rfl d101_36 mw_p5_65 mw_m131 rfl rfl (Nat.le_of_ble_eq_true rfl) (Nat.le_of_ble_eq_true rfl) rfl (mw_rcv mw_c_23) rfl rfl))
theorem b101_39 {X : mj_X} {d : Nat} {s : mw_S} {x1 : Int32} {x2 : Int32} {l3 : Option Value}  : mj_exec X (d + 1) 101 39 [some (.ref 22), some (.int x1), some (.int x2), l3] [] (mw_U s) = (mj_call X d 102 [.ref 22, .int x1] (mw_U s)).bind (mj_bk X (d + 1) 101 44 [some (.ref 22), some (.int x1), some (.int x2), l3] []) := (mj_q_aload_n mw_m101 d101_39 rfl (by decide)).trans ((mj_q_iload_n mw_m101 d101_40 rfl).trans (mw_q_callv mw_m101 rfl d101_41 mw_p5_162 mw_m102 rfl rfl (Nat.le_of_ble_eq_true rfl) (Nat.le_of_ble_eq_true rfl) rfl (mw_rcv mw_c_22) rfl rfl))
theorem b101_44 {X : mj_X} {d : Nat} {s : mw_S} {x1 : Int32} {x2 : Int32} {l3 : Option Value} {xs0 : Int32}  : mj_exec X d 101 44 [some (.ref 22), some (.int x1), some (.int x2), l3] [.int xs0] (mw_U s) = if x2 = (nI 60) then mj_exec X d 101 55 [some (.ref 22), some (.int x1), some (.int x2), some (.int xs0)] [.ref 27] (mw_U s) else mj_exec X d 101 60 [some (.ref 22), some (.int x1), some (.int x2), some (.int xs0)] [.ref 27] (mw_U s) := (mj_q_istore_n mw_m101 d101_44 (Nat.le_of_ble_eq_true rfl) rfl rfl).trans ((mj_q_aload_n mw_m101 d101_45 rfl (by decide)).trans ((mw_q_getr mw_m101 d101_46 mw_p5_28 mw_c_22 mw_f_22_2).trans ((mj_q_iload_n mw_m101 d101_49 rfl).trans ((mj_q_bipush mw_m101 d101_50 mw_k_bipush_60).trans (mj_q_icmp_ne mw_m101 d101_52 rfl)))))
theorem b101_55 {X : mj_X} {d : Nat} {s : mw_S} {x1 : Int32} {x2 : Int32} {x3 : Int32} {ks0 : Nat} (hs0 : mw_cl ks0 = some 6) : mj_exec X d 101 55 [some (.ref 22), some (.int x1), some (.int x2), some (.int x3)] [.ref ks0] (mw_U s) = mj_exec X d 101 62 [some (.ref 22), some (.int x1), some (.int x2), some (.int x3)] [.int (-10), .ref ks0] (mw_U s) := (mj_q_bipush mw_m101 d101_55 mw_k_bipush_m10).trans (mj_q_goto mw_m101 d101_57 rfl)
theorem b101_60 {X : mj_X} {d : Nat} {s : mw_S} {x1 : Int32} {x2 : Int32} {x3 : Int32} {ks0 : Nat} (hs0 : mw_cl ks0 = some 6) : mj_exec X d 101 60 [some (.ref 22), some (.int x1), some (.int x2), some (.int x3)] [.ref ks0] (mw_U s) = mj_exec X d 101 62 [some (.ref 22), some (.int x1), some (.int x2), some (.int x3)] [.int (-11), .ref ks0] (mw_U s) := mj_q_bipush mw_m101 d101_60 mw_k_bipush_m11
theorem b101_62 {X : mj_X} {d : Nat} {s : mw_S} {x1 : Int32} {x2 : Int32} {x3 : Int32} {ks0 : Nat} {xs1 : Int32} (hs0 : mw_cl ks0 = some 6) : mj_exec X (d + 1) 101 62 [some (.ref 22), some (.int x1), some (.int x2), some (.int x3)] [.int xs1, .ref ks0] (mw_U s) = (mj_call X d 123 [.ref ks0, .int xs1] (mw_U s)).bind (mj_bk X (d + 1) 101 65 [some (.ref 22), some (.int x1), some (.int x2), some (.int x3)] []) := mw_q_callv mw_m101 rfl d101_62 mw_p5_153 mw_m123 rfl rfl (Nat.le_of_ble_eq_true rfl) (Nat.le_of_ble_eq_true rfl) rfl (mw_rcv hs0) rfl rfl
theorem b101_65 {X : mj_X} {d : Nat} {s : mw_S} {x1 : Int32} {x2 : Int32} {x3 : Int32}  : mj_exec X d 101 65 [some (.ref 22), some (.int x1), some (.int x2), some (.int x3)] [] (mw_U s) = if mj_rfit (some .boolean) x3 = true then some (.inl (some (.int x3)), mw_U s) else none := (mj_q_iload_n mw_m101 d101_65 rfl).trans (mw_h_iret mw_m101 d101_66 rfl)
/-- WivesQuarrels$Reader.readSum -/
theorem d102_0 : decode prog_8_method_21_code 0 = .ok (.aload_n 0, 1) := by decide +kernel
theorem d102_1 : decode prog_8_method_21_code 1 = .ok (.iload_n 1, 1) := by decide +kernel
theorem d102_2 : decode prog_8_method_21_code 2 = .ok (.invokevirtual 165, 3) := by decide +kernel
theorem d102_5 : decode prog_8_method_21_code 5 = .ok (.istore_n 2, 1) := by decide +kernel
theorem d102_6 : decode prog_8_method_21_code 6 = .ok (.iconst 0, 1) := by decide +kernel
theorem d102_7 : decode prog_8_method_21_code 7 = .ok (.istore_n 3, 1) := by decide +kernel
theorem d102_8 : decode prog_8_method_21_code 8 = .ok (.iload_n 3, 1) := by decide +kernel
theorem d102_9 : decode prog_8_method_21_code 9 = .ok (.sipush 700, 3) := by decide +kernel
theorem d102_12 : decode prog_8_method_21_code 12 = .ok (.if_icmp .ge 72, 3) := by decide +kernel
theorem d102_15 : decode prog_8_method_21_code 15 = .ok (.iload_n 2, 1) := by decide +kernel
theorem d102_16 : decode prog_8_method_21_code 16 = .ok (.ifCond .eq 68, 3) := by decide +kernel
theorem d102_19 : decode prog_8_method_21_code 19 = .ok (.aload_n 0, 1) := by decide +kernel
theorem d102_20 : decode prog_8_method_21_code 20 = .ok (.getfield 12, 3) := by decide +kernel
theorem d102_23 : decode prog_8_method_21_code 23 = .ok (.invokevirtual 47, 3) := by decide +kernel
theorem d102_26 : decode prog_8_method_21_code 26 = .ok (.istore 4, 2) := by decide +kernel
theorem d102_28 : decode prog_8_method_21_code 28 = .ok (.iload 4, 2) := by decide +kernel
theorem d102_30 : decode prog_8_method_21_code 30 = .ok (.bipush 43, 2) := by decide +kernel
theorem d102_32 : decode prog_8_method_21_code 32 = .ok (.if_icmp .eq 12, 3) := by decide +kernel
theorem d102_35 : decode prog_8_method_21_code 35 = .ok (.iload 4, 2) := by decide +kernel
theorem d102_37 : decode prog_8_method_21_code 37 = .ok (.bipush 45, 2) := by decide +kernel
theorem d102_39 : decode prog_8_method_21_code 39 = .ok (.if_icmp .eq 5, 3) := by decide +kernel
theorem d102_42 : decode prog_8_method_21_code 42 = .ok (.iconst 1, 1) := by decide +kernel
theorem d102_43 : decode prog_8_method_21_code 43 = .ok (.ireturn, 1) := by decide +kernel
theorem d102_44 : decode prog_8_method_21_code 44 = .ok (.aload_n 0, 1) := by decide +kernel
theorem d102_45 : decode prog_8_method_21_code 45 = .ok (.getfield 12, 3) := by decide +kernel
theorem d102_48 : decode prog_8_method_21_code 48 = .ok (.invokevirtual 65, 3) := by decide +kernel
theorem d102_51 : decode prog_8_method_21_code 51 = .ok (.aload_n 0, 1) := by decide +kernel
theorem d102_52 : decode prog_8_method_21_code 52 = .ok (.iload_n 1, 1) := by decide +kernel
theorem d102_53 : decode prog_8_method_21_code 53 = .ok (.invokevirtual 165, 3) := by decide +kernel
theorem d102_56 : decode prog_8_method_21_code 56 = .ok (.istore_n 2, 1) := by decide +kernel
theorem d102_57 : decode prog_8_method_21_code 57 = .ok (.aload_n 0, 1) := by decide +kernel
theorem d102_58 : decode prog_8_method_21_code 58 = .ok (.getfield 28, 3) := by decide +kernel
theorem d102_61 : decode prog_8_method_21_code 61 = .ok (.iload 4, 2) := by decide +kernel
theorem d102_63 : decode prog_8_method_21_code 63 = .ok (.bipush 43, 2) := by decide +kernel
theorem d102_65 : decode prog_8_method_21_code 65 = .ok (.if_icmp .ne 8, 3) := by decide +kernel
theorem d102_68 : decode prog_8_method_21_code 68 = .ok (.bipush (-12), 2) := by decide +kernel
theorem d102_70 : decode prog_8_method_21_code 70 = .ok (.goto 5, 3) := by decide +kernel
theorem d102_73 : decode prog_8_method_21_code 73 = .ok (.bipush (-13), 2) := by decide +kernel
theorem d102_75 : decode prog_8_method_21_code 75 = .ok (.invokevirtual 153, 3) := by decide +kernel
theorem d102_78 : decode prog_8_method_21_code 78 = .ok (.iinc 3 1, 3) := by decide +kernel
theorem d102_81 : decode prog_8_method_21_code 81 = .ok (.goto (-73), 3) := by decide +kernel
theorem d102_84 : decode prog_8_method_21_code 84 = .ok (.iload_n 2, 1) := by decide +kernel
theorem d102_85 : decode prog_8_method_21_code 85 = .ok (.ireturn, 1) := by decide +kernel
theorem b102 {X : mj_X} {d : Nat} {w : mj_W} {x0 : Nat} {x1 : Int32} : mj_call X d 102 [.ref x0, .int x1] w = mj_exec X d 102 0 [some (.ref x0), some (.int x1), none, none, none] [] w := mw_ent mw_m102 (Nat.le_of_ble_eq_true rfl) rfl
theorem b102_0 {X : mj_X} {d : Nat} {s : mw_S} {x1 : Int32} {l2 : Option Value} {l3 : Option Value} {l4 : Option Value}  : mj_exec X (d + 1) 102 0 [some (.ref 22), some (.int x1), l2, l3, l4] [] (mw_U s) = (mj_call X d 103 [.ref 22, .int x1] (mw_U s)).bind (mj_bk X (d + 1) 102 5 [some (.ref 22), some (.int x1), l2, l3, l4] []) := (mj_q_aload_n mw_m102 d102_0 rfl (by decide)).trans ((mj_q_iload_n mw_m102 d102_1 rfl).trans (mw_q_callv mw_m102 rfl d102_2 mw_p5_165 mw_m103 rfl rfl (Nat.le_of_ble_eq_true rfl) (Nat.le_of_ble_eq_true rfl) rfl (mw_rcv mw_c_22) rfl rfl))
theorem b102_5 {X : mj_X} {d : Nat} {s : mw_S} {x1 : Int32} {l2 : Option Value} {l3 : Option Value} {l4 : Option Value} {xs0 : Int32}  : mj_exec X d 102 5 [some (.ref 22), some (.int x1), l2, l3, l4] [.int xs0] (mw_U s) = mj_exec X d 102 8 [some (.ref 22), some (.int x1), some (.int xs0), some (.int (nI 0)), l4] [] (mw_U s) := (mj_q_istore_n mw_m102 d102_5 (Nat.le_of_ble_eq_true rfl) rfl rfl).trans ((mj_q_iconst mw_m102 d102_6 mw_k_iconst_0).trans (mj_q_istore_n mw_m102 d102_7 (Nat.le_of_ble_eq_true rfl) rfl rfl))
theorem b102_8 {X : mj_X} {d : Nat} {s : mw_S} {x1 : Int32} {x2 : Int32} {x3 : Int32} {l4 : Option Value}  : mj_exec X d 102 8 [some (.ref 22), some (.int x1), some (.int x2), some (.int x3), l4] [] (mw_U s) = if (nI 700) ≤ x3 then mj_exec X d 102 84 [some (.ref 22), some (.int x1), some (.int x2), some (.int x3), l4] [] (mw_U s) else mj_exec X d 102 15 [some (.ref 22), some (.int x1), some (.int x2), some (.int x3), l4] [] (mw_U s) := (mj_q_iload_n mw_m102 d102_8 rfl).trans ((mj_q_sipush mw_m102 d102_9 mw_k_sipush_700).trans (mj_q_icmp_ge mw_m102 d102_12 rfl))
theorem b102_15 {X : mj_X} {d : Nat} {s : mw_S} {x1 : Int32} {x2 : Int32} {x3 : Int32} {l4 : Option Value}  : mj_exec X d 102 15 [some (.ref 22), some (.int x1), some (.int x2), some (.int x3), l4] [] (mw_U s) = if x2 = 0 then mj_exec X d 102 84 [some (.ref 22), some (.int x1), some (.int x2), some (.int x3), l4] [] (mw_U s) else mj_exec X d 102 19 [some (.ref 22), some (.int x1), some (.int x2), some (.int x3), l4] [] (mw_U s) := (mj_q_iload_n mw_m102 d102_15 rfl).trans (mj_q_if_eq mw_m102 d102_16 rfl)
theorem b102_19 {X : mj_X} {d : Nat} {s : mw_S} {x1 : Int32} {x2 : Int32} {x3 : Int32} {l4 : Option Value}  : mj_exec X (d + 1) 102 19 [some (.ref 22), some (.int x1), some (.int x2), some (.int x3), l4] [] (mw_U s) = (mj_call X d 135 [.ref 23] (mw_U s)).bind (mj_bk X (d + 1) 102 26 [some (.ref 22), some (.int x1), some (.int x2), some (.int x3), l4] []) := (mj_q_aload_n mw_m102 d102_19 rfl (by decide)).trans ((mw_q_getr mw_m102 d102_20 mw_p5_12 mw_c_22 mw_f_22_0).trans (mw_q_callv mw_m102 rfl d102_23 mw_p5_47 mw_m135 rfl rfl (Nat.le_of_ble_eq_true rfl) (Nat.le_of_ble_eq_true rfl) rfl (mw_rcv mw_c_23) rfl rfl))
theorem b102_26 {X : mj_X} {d : Nat} {s : mw_S} {x1 : Int32} {x2 : Int32} {x3 : Int32} {l4 : Option Value} {xs0 : Int32}  : mj_exec X d 102 26 [some (.ref 22), some (.int x1), some (.int x2), some (.int x3), l4] [.int xs0] (mw_U s) = if xs0 = (nI 43) then mj_exec X d 102 44 [some (.ref 22), some (.int x1), some (.int x2), some (.int x3), some (.int xs0)] [] (mw_U s) else mj_exec X d 102 35 [some (.ref 22), some (.int x1), some (.int x2), some (.int x3), some (.int xs0)] [] (mw_U s) := (mj_q_istore mw_m102 d102_26 (Nat.le_of_ble_eq_true rfl) rfl rfl).trans ((mj_q_iload mw_m102 d102_28 rfl).trans ((mj_q_bipush mw_m102 d102_30 mw_k_bipush_43).trans (mj_q_icmp_eq mw_m102 d102_32 rfl)))
theorem b102_35 {X : mj_X} {d : Nat} {s : mw_S} {x1 : Int32} {x2 : Int32} {x3 : Int32} {x4 : Int32}  : mj_exec X d 102 35 [some (.ref 22), some (.int x1), some (.int x2), some (.int x3), some (.int x4)] [] (mw_U s) = if x4 = (nI 45) then mj_exec X d 102 44 [some (.ref 22), some (.int x1), some (.int x2), some (.int x3), some (.int x4)] [] (mw_U s) else mj_exec X d 102 42 [some (.ref 22), some (.int x1), some (.int x2), some (.int x3), some (.int x4)] [] (mw_U s) := (mj_q_iload mw_m102 d102_35 rfl).trans ((mj_q_bipush mw_m102 d102_37 mw_k_bipush_45).trans (mj_q_icmp_eq mw_m102 d102_39 rfl))
theorem b102_42 {X : mj_X} {d : Nat} {s : mw_S} {x1 : Int32} {x2 : Int32} {x3 : Int32} {x4 : Int32}  : mj_exec X d 102 42 [some (.ref 22), some (.int x1), some (.int x2), some (.int x3), some (.int x4)] [] (mw_U s) = some (.inl (some (.int (nI 1))), mw_U s) := (mj_q_iconst mw_m102 d102_42 mw_k_iconst_1).trans (mj_q_iret mw_m102 d102_43 (by decide))
theorem b102_44 {X : mj_X} {d : Nat} {s : mw_S} {x1 : Int32} {x2 : Int32} {x3 : Int32} {x4 : Int32}  : mj_exec X (d + 1) 102 44 [some (.ref 22), some (.int x1), some (.int x2), some (.int x3), some (.int x4)] [] (mw_U s) = (mj_call X d 131 [.ref 23] (mw_U s)).bind (mj_bk X (d + 1) 102 51 [some (.ref 22), some (.int x1), some (.int x2), some (.int x3), some (.int x4)] []) := (mj_q_aload_n mw_m102 d102_44 rfl (by decide)).trans ((mw_q_getr mw_m102 d102_45 mw_p5_12 mw_c_22 mw_f_22_0).trans (mw_q_callv mw_m102 rfl d102_48 mw_p5_65 mw_m131 rfl rfl (Nat.le_of_ble_eq_true rfl) (Nat.le_of_ble_eq_true rfl) rfl (mw_rcv mw_c_23) rfl rfl))
theorem b102_51 {X : mj_X} {d : Nat} {s : mw_S} {x1 : Int32} {x2 : Int32} {x3 : Int32} {x4 : Int32}  : mj_exec X (d + 1) 102 51 [some (.ref 22), some (.int x1), some (.int x2), some (.int x3), some (.int x4)] [] (mw_U s) = (mj_call X d 103 [.ref 22, .int x1] (mw_U s)).bind (mj_bk X (d + 1) 102 56 [some (.ref 22), some (.int x1), some (.int x2), some (.int x3), some (.int x4)] []) := (mj_q_aload_n mw_m102 d102_51 rfl (by decide)).trans ((mj_q_iload_n mw_m102 d102_52 rfl).trans (mw_q_callv mw_m102 rfl d102_53 mw_p5_165 mw_m103 rfl rfl (Nat.le_of_ble_eq_true rfl) (Nat.le_of_ble_eq_true rfl) rfl (mw_rcv mw_c_22) rfl rfl))
theorem b102_56 {X : mj_X} {d : Nat} {s : mw_S} {x1 : Int32} {x2 : Int32} {x3 : Int32} {x4 : Int32} {xs0 : Int32}  : mj_exec X d 102 56 [some (.ref 22), some (.int x1), some (.int x2), some (.int x3), some (.int x4)] [.int xs0] (mw_U s) = if x4 = (nI 43) then mj_exec X d 102 68 [some (.ref 22), some (.int x1), some (.int xs0), some (.int x3), some (.int x4)] [.ref 27] (mw_U s) else mj_exec X d 102 73 [some (.ref 22), some (.int x1), some (.int xs0), some (.int x3), some (.int x4)] [.ref 27] (mw_U s) := (mj_q_istore_n mw_m102 d102_56 (Nat.le_of_ble_eq_true rfl) rfl rfl).trans ((mj_q_aload_n mw_m102 d102_57 rfl (by decide)).trans ((mw_q_getr mw_m102 d102_58 mw_p5_28 mw_c_22 mw_f_22_2).trans ((mj_q_iload mw_m102 d102_61 rfl).trans ((mj_q_bipush mw_m102 d102_63 mw_k_bipush_43).trans (mj_q_icmp_ne mw_m102 d102_65 rfl)))))
theorem b102_68 {X : mj_X} {d : Nat} {s : mw_S} {x1 : Int32} {x2 : Int32} {x3 : Int32} {x4 : Int32} {ks0 : Nat} (hs0 : mw_cl ks0 = some 6) : mj_exec X d 102 68 [some (.ref 22), some (.int x1), some (.int x2), some (.int x3), some (.int x4)] [.ref ks0] (mw_U s) = mj_exec X d 102 75 [some (.ref 22), some (.int x1), some (.int x2), some (.int x3), some (.int x4)] [.int (-12), .ref ks0] (mw_U s) := (mj_q_bipush mw_m102 d102_68 mw_k_bipush_m12).trans (mj_q_goto mw_m102 d102_70 rfl)
theorem b102_73 {X : mj_X} {d : Nat} {s : mw_S} {x1 : Int32} {x2 : Int32} {x3 : Int32} {x4 : Int32} {ks0 : Nat} (hs0 : mw_cl ks0 = some 6) : mj_exec X d 102 73 [some (.ref 22), some (.int x1), some (.int x2), some (.int x3), some (.int x4)] [.ref ks0] (mw_U s) = mj_exec X d 102 75 [some (.ref 22), some (.int x1), some (.int x2), some (.int x3), some (.int x4)] [.int (-13), .ref ks0] (mw_U s) := mj_q_bipush mw_m102 d102_73 mw_k_bipush_m13
theorem b102_75 {X : mj_X} {d : Nat} {s : mw_S} {x1 : Int32} {x2 : Int32} {x3 : Int32} {x4 : Int32} {ks0 : Nat} {xs1 : Int32} (hs0 : mw_cl ks0 = some 6) : mj_exec X (d + 1) 102 75 [some (.ref 22), some (.int x1), some (.int x2), some (.int x3), some (.int x4)] [.int xs1, .ref ks0] (mw_U s) = (mj_call X d 123 [.ref ks0, .int xs1] (mw_U s)).bind (mj_bk X (d + 1) 102 78 [some (.ref 22), some (.int x1), some (.int x2), some (.int x3), some (.int x4)] []) := mw_q_callv mw_m102 rfl d102_75 mw_p5_153 mw_m123 rfl rfl (Nat.le_of_ble_eq_true rfl) (Nat.le_of_ble_eq_true rfl) rfl (mw_rcv hs0) rfl rfl
theorem b102_78 {X : mj_X} {d : Nat} {s : mw_S} {x1 : Int32} {x2 : Int32} {x3 : Int32} {x4 : Int32}  : mj_exec X d 102 78 [some (.ref 22), some (.int x1), some (.int x2), some (.int x3), some (.int x4)] [] (mw_U s) = mj_exec X d 102 8 [some (.ref 22), some (.int x1), some (.int x2), some (.int (x3 + (nI 1))), some (.int x4)] [] (mw_U s) := (mj_q_iinc mw_m102 d102_78 rfl (Nat.le_of_ble_eq_true rfl) rfl mw_k_iconst_1 rfl).trans (mj_q_goto mw_m102 d102_81 rfl)
theorem b102_84 {X : mj_X} {d : Nat} {s : mw_S} {x1 : Int32} {x2 : Int32} {x3 : Int32} {l4 : Option Value}  : mj_exec X d 102 84 [some (.ref 22), some (.int x1), some (.int x2), some (.int x3), l4] [] (mw_U s) = if mj_rfit (some .boolean) x2 = true then some (.inl (some (.int x2)), mw_U s) else none := (mj_q_iload_n mw_m102 d102_84 rfl).trans (mw_h_iret mw_m102 d102_85 rfl)
/-- WivesQuarrels$Reader.readProduct -/
theorem d103_0 : decode prog_8_method_22_code 0 = .ok (.aload_n 0, 1) := by decide +kernel
theorem d103_1 : decode prog_8_method_22_code 1 = .ok (.iload_n 1, 1) := by decide +kernel
theorem d103_2 : decode prog_8_method_22_code 2 = .ok (.invokevirtual 168, 3) := by decide +kernel
theorem d103_5 : decode prog_8_method_22_code 5 = .ok (.istore_n 2, 1) := by decide +kernel
theorem d103_6 : decode prog_8_method_22_code 6 = .ok (.iconst 0, 1) := by decide +kernel
theorem d103_7 : decode prog_8_method_22_code 7 = .ok (.istore_n 3, 1) := by decide +kernel
theorem d103_8 : decode prog_8_method_22_code 8 = .ok (.iload_n 3, 1) := by decide +kernel
theorem d103_9 : decode prog_8_method_22_code 9 = .ok (.sipush 700, 3) := by decide +kernel
theorem d103_12 : decode prog_8_method_22_code 12 = .ok (.if_icmp .ge 72, 3) := by decide +kernel
theorem d103_15 : decode prog_8_method_22_code 15 = .ok (.iload_n 2, 1) := by decide +kernel
theorem d103_16 : decode prog_8_method_22_code 16 = .ok (.ifCond .eq 68, 3) := by decide +kernel
theorem d103_19 : decode prog_8_method_22_code 19 = .ok (.aload_n 0, 1) := by decide +kernel
theorem d103_20 : decode prog_8_method_22_code 20 = .ok (.getfield 12, 3) := by decide +kernel
theorem d103_23 : decode prog_8_method_22_code 23 = .ok (.invokevirtual 47, 3) := by decide +kernel
theorem d103_26 : decode prog_8_method_22_code 26 = .ok (.istore 4, 2) := by decide +kernel
theorem d103_28 : decode prog_8_method_22_code 28 = .ok (.iload 4, 2) := by decide +kernel
theorem d103_30 : decode prog_8_method_22_code 30 = .ok (.bipush 42, 2) := by decide +kernel
theorem d103_32 : decode prog_8_method_22_code 32 = .ok (.if_icmp .eq 12, 3) := by decide +kernel
theorem d103_35 : decode prog_8_method_22_code 35 = .ok (.iload 4, 2) := by decide +kernel
theorem d103_37 : decode prog_8_method_22_code 37 = .ok (.bipush 47, 2) := by decide +kernel
theorem d103_39 : decode prog_8_method_22_code 39 = .ok (.if_icmp .eq 5, 3) := by decide +kernel
theorem d103_42 : decode prog_8_method_22_code 42 = .ok (.iconst 1, 1) := by decide +kernel
theorem d103_43 : decode prog_8_method_22_code 43 = .ok (.ireturn, 1) := by decide +kernel
theorem d103_44 : decode prog_8_method_22_code 44 = .ok (.aload_n 0, 1) := by decide +kernel
theorem d103_45 : decode prog_8_method_22_code 45 = .ok (.getfield 12, 3) := by decide +kernel
theorem d103_48 : decode prog_8_method_22_code 48 = .ok (.invokevirtual 65, 3) := by decide +kernel
theorem d103_51 : decode prog_8_method_22_code 51 = .ok (.aload_n 0, 1) := by decide +kernel
theorem d103_52 : decode prog_8_method_22_code 52 = .ok (.iload_n 1, 1) := by decide +kernel
theorem d103_53 : decode prog_8_method_22_code 53 = .ok (.invokevirtual 168, 3) := by decide +kernel
theorem d103_56 : decode prog_8_method_22_code 56 = .ok (.istore_n 2, 1) := by decide +kernel
theorem d103_57 : decode prog_8_method_22_code 57 = .ok (.aload_n 0, 1) := by decide +kernel
theorem d103_58 : decode prog_8_method_22_code 58 = .ok (.getfield 28, 3) := by decide +kernel
theorem d103_61 : decode prog_8_method_22_code 61 = .ok (.iload 4, 2) := by decide +kernel
theorem d103_63 : decode prog_8_method_22_code 63 = .ok (.bipush 42, 2) := by decide +kernel
theorem d103_65 : decode prog_8_method_22_code 65 = .ok (.if_icmp .ne 8, 3) := by decide +kernel
theorem d103_68 : decode prog_8_method_22_code 68 = .ok (.bipush (-14), 2) := by decide +kernel
theorem d103_70 : decode prog_8_method_22_code 70 = .ok (.goto 5, 3) := by decide +kernel
theorem d103_73 : decode prog_8_method_22_code 73 = .ok (.bipush (-15), 2) := by decide +kernel
theorem d103_75 : decode prog_8_method_22_code 75 = .ok (.invokevirtual 153, 3) := by decide +kernel
theorem d103_78 : decode prog_8_method_22_code 78 = .ok (.iinc 3 1, 3) := by decide +kernel
theorem d103_81 : decode prog_8_method_22_code 81 = .ok (.goto (-73), 3) := by decide +kernel
theorem d103_84 : decode prog_8_method_22_code 84 = .ok (.iload_n 2, 1) := by decide +kernel
theorem d103_85 : decode prog_8_method_22_code 85 = .ok (.ireturn, 1) := by decide +kernel
theorem b103 {X : mj_X} {d : Nat} {w : mj_W} {x0 : Nat} {x1 : Int32} : mj_call X d 103 [.ref x0, .int x1] w = mj_exec X d 103 0 [some (.ref x0), some (.int x1), none, none, none] [] w := mw_ent mw_m103 (Nat.le_of_ble_eq_true rfl) rfl
theorem b103_0 {X : mj_X} {d : Nat} {s : mw_S} {x1 : Int32} {l2 : Option Value} {l3 : Option Value} {l4 : Option Value}  : mj_exec X (d + 1) 103 0 [some (.ref 22), some (.int x1), l2, l3, l4] [] (mw_U s) = (mj_call X d 104 [.ref 22, .int x1] (mw_U s)).bind (mj_bk X (d + 1) 103 5 [some (.ref 22), some (.int x1), l2, l3, l4] []) := (mj_q_aload_n mw_m103 d103_0 rfl (by decide)).trans ((mj_q_iload_n mw_m103 d103_1 rfl).trans (mw_q_callv mw_m103 rfl d103_2 mw_p5_168 mw_m104 rfl rfl (Nat.le_of_ble_eq_true rfl) (Nat.le_of_ble_eq_true rfl) rfl (mw_rcv mw_c_22) rfl rfl))
theorem b103_5 {X : mj_X} {d : Nat} {s : mw_S} {x1 : Int32} {l2 : Option Value} {l3 : Option Value} {l4 : Option Value} {xs0 : Int32}  : mj_exec X d 103 5 [some (.ref 22), some (.int x1), l2, l3, l4] [.int xs0] (mw_U s) = mj_exec X d 103 8 [some (.ref 22), some (.int x1), some (.int xs0), some (.int (nI 0)), l4] [] (mw_U s) := (mj_q_istore_n mw_m103 d103_5 (Nat.le_of_ble_eq_true rfl) rfl rfl).trans ((mj_q_iconst mw_m103 d103_6 mw_k_iconst_0).trans (mj_q_istore_n mw_m103 d103_7 (Nat.le_of_ble_eq_true rfl) rfl rfl))
theorem b103_8 {X : mj_X} {d : Nat} {s : mw_S} {x1 : Int32} {x2 : Int32} {x3 : Int32} {l4 : Option Value}  : mj_exec X d 103 8 [some (.ref 22), some (.int x1), some (.int x2), some (.int x3), l4] [] (mw_U s) = if (nI 700) ≤ x3 then mj_exec X d 103 84 [some (.ref 22), some (.int x1), some (.int x2), some (.int x3), l4] [] (mw_U s) else mj_exec X d 103 15 [some (.ref 22), some (.int x1), some (.int x2), some (.int x3), l4] [] (mw_U s) := (mj_q_iload_n mw_m103 d103_8 rfl).trans ((mj_q_sipush mw_m103 d103_9 mw_k_sipush_700).trans (mj_q_icmp_ge mw_m103 d103_12 rfl))
theorem b103_15 {X : mj_X} {d : Nat} {s : mw_S} {x1 : Int32} {x2 : Int32} {x3 : Int32} {l4 : Option Value}  : mj_exec X d 103 15 [some (.ref 22), some (.int x1), some (.int x2), some (.int x3), l4] [] (mw_U s) = if x2 = 0 then mj_exec X d 103 84 [some (.ref 22), some (.int x1), some (.int x2), some (.int x3), l4] [] (mw_U s) else mj_exec X d 103 19 [some (.ref 22), some (.int x1), some (.int x2), some (.int x3), l4] [] (mw_U s) := (mj_q_iload_n mw_m103 d103_15 rfl).trans (mj_q_if_eq mw_m103 d103_16 rfl)
theorem b103_19 {X : mj_X} {d : Nat} {s : mw_S} {x1 : Int32} {x2 : Int32} {x3 : Int32} {l4 : Option Value}  : mj_exec X (d + 1) 103 19 [some (.ref 22), some (.int x1), some (.int x2), some (.int x3), l4] [] (mw_U s) = (mj_call X d 135 [.ref 23] (mw_U s)).bind (mj_bk X (d + 1) 103 26 [some (.ref 22), some (.int x1), some (.int x2), some (.int x3), l4] []) := (mj_q_aload_n mw_m103 d103_19 rfl (by decide)).trans ((mw_q_getr mw_m103 d103_20 mw_p5_12 mw_c_22 mw_f_22_0).trans (mw_q_callv mw_m103 rfl d103_23 mw_p5_47 mw_m135 rfl rfl (Nat.le_of_ble_eq_true rfl) (Nat.le_of_ble_eq_true rfl) rfl (mw_rcv mw_c_23) rfl rfl))
theorem b103_26 {X : mj_X} {d : Nat} {s : mw_S} {x1 : Int32} {x2 : Int32} {x3 : Int32} {l4 : Option Value} {xs0 : Int32}  : mj_exec X d 103 26 [some (.ref 22), some (.int x1), some (.int x2), some (.int x3), l4] [.int xs0] (mw_U s) = if xs0 = (nI 42) then mj_exec X d 103 44 [some (.ref 22), some (.int x1), some (.int x2), some (.int x3), some (.int xs0)] [] (mw_U s) else mj_exec X d 103 35 [some (.ref 22), some (.int x1), some (.int x2), some (.int x3), some (.int xs0)] [] (mw_U s) := (mj_q_istore mw_m103 d103_26 (Nat.le_of_ble_eq_true rfl) rfl rfl).trans ((mj_q_iload mw_m103 d103_28 rfl).trans ((mj_q_bipush mw_m103 d103_30 mw_k_bipush_42).trans (mj_q_icmp_eq mw_m103 d103_32 rfl)))
theorem b103_35 {X : mj_X} {d : Nat} {s : mw_S} {x1 : Int32} {x2 : Int32} {x3 : Int32} {x4 : Int32}  : mj_exec X d 103 35 [some (.ref 22), some (.int x1), some (.int x2), some (.int x3), some (.int x4)] [] (mw_U s) = if x4 = (nI 47) then mj_exec X d 103 44 [some (.ref 22), some (.int x1), some (.int x2), some (.int x3), some (.int x4)] [] (mw_U s) else mj_exec X d 103 42 [some (.ref 22), some (.int x1), some (.int x2), some (.int x3), some (.int x4)] [] (mw_U s) := (mj_q_iload mw_m103 d103_35 rfl).trans ((mj_q_bipush mw_m103 d103_37 mw_k_bipush_47).trans (mj_q_icmp_eq mw_m103 d103_39 rfl))
theorem b103_42 {X : mj_X} {d : Nat} {s : mw_S} {x1 : Int32} {x2 : Int32} {x3 : Int32} {x4 : Int32}  : mj_exec X d 103 42 [some (.ref 22), some (.int x1), some (.int x2), some (.int x3), some (.int x4)] [] (mw_U s) = some (.inl (some (.int (nI 1))), mw_U s) := (mj_q_iconst mw_m103 d103_42 mw_k_iconst_1).trans (mj_q_iret mw_m103 d103_43 (by decide))
theorem b103_44 {X : mj_X} {d : Nat} {s : mw_S} {x1 : Int32} {x2 : Int32} {x3 : Int32} {x4 : Int32}  : mj_exec X (d + 1) 103 44 [some (.ref 22), some (.int x1), some (.int x2), some (.int x3), some (.int x4)] [] (mw_U s) = (mj_call X d 131 [.ref 23] (mw_U s)).bind (mj_bk X (d + 1) 103 51 [some (.ref 22), some (.int x1), some (.int x2), some (.int x3), some (.int x4)] []) := (mj_q_aload_n mw_m103 d103_44 rfl (by decide)).trans ((mw_q_getr mw_m103 d103_45 mw_p5_12 mw_c_22 mw_f_22_0).trans (mw_q_callv mw_m103 rfl d103_48 mw_p5_65 mw_m131 rfl rfl (Nat.le_of_ble_eq_true rfl) (Nat.le_of_ble_eq_true rfl) rfl (mw_rcv mw_c_23) rfl rfl))
theorem b103_51 {X : mj_X} {d : Nat} {s : mw_S} {x1 : Int32} {x2 : Int32} {x3 : Int32} {x4 : Int32}  : mj_exec X (d + 1) 103 51 [some (.ref 22), some (.int x1), some (.int x2), some (.int x3), some (.int x4)] [] (mw_U s) = (mj_call X d 104 [.ref 22, .int x1] (mw_U s)).bind (mj_bk X (d + 1) 103 56 [some (.ref 22), some (.int x1), some (.int x2), some (.int x3), some (.int x4)] []) := (mj_q_aload_n mw_m103 d103_51 rfl (by decide)).trans ((mj_q_iload_n mw_m103 d103_52 rfl).trans (mw_q_callv mw_m103 rfl d103_53 mw_p5_168 mw_m104 rfl rfl (Nat.le_of_ble_eq_true rfl) (Nat.le_of_ble_eq_true rfl) rfl (mw_rcv mw_c_22) rfl rfl))
theorem b103_56 {X : mj_X} {d : Nat} {s : mw_S} {x1 : Int32} {x2 : Int32} {x3 : Int32} {x4 : Int32} {xs0 : Int32}  : mj_exec X d 103 56 [some (.ref 22), some (.int x1), some (.int x2), some (.int x3), some (.int x4)] [.int xs0] (mw_U s) = if x4 = (nI 42) then mj_exec X d 103 68 [some (.ref 22), some (.int x1), some (.int xs0), some (.int x3), some (.int x4)] [.ref 27] (mw_U s) else mj_exec X d 103 73 [some (.ref 22), some (.int x1), some (.int xs0), some (.int x3), some (.int x4)] [.ref 27] (mw_U s) := (mj_q_istore_n mw_m103 d103_56 (Nat.le_of_ble_eq_true rfl) rfl rfl).trans ((mj_q_aload_n mw_m103 d103_57 rfl (by decide)).trans ((mw_q_getr mw_m103 d103_58 mw_p5_28 mw_c_22 mw_f_22_2).trans ((mj_q_iload mw_m103 d103_61 rfl).trans ((mj_q_bipush mw_m103 d103_63 mw_k_bipush_42).trans (mj_q_icmp_ne mw_m103 d103_65 rfl)))))
theorem b103_68 {X : mj_X} {d : Nat} {s : mw_S} {x1 : Int32} {x2 : Int32} {x3 : Int32} {x4 : Int32} {ks0 : Nat} (hs0 : mw_cl ks0 = some 6) : mj_exec X d 103 68 [some (.ref 22), some (.int x1), some (.int x2), some (.int x3), some (.int x4)] [.ref ks0] (mw_U s) = mj_exec X d 103 75 [some (.ref 22), some (.int x1), some (.int x2), some (.int x3), some (.int x4)] [.int (-14), .ref ks0] (mw_U s) := (mj_q_bipush mw_m103 d103_68 mw_k_bipush_m14).trans (mj_q_goto mw_m103 d103_70 rfl)
theorem b103_73 {X : mj_X} {d : Nat} {s : mw_S} {x1 : Int32} {x2 : Int32} {x3 : Int32} {x4 : Int32} {ks0 : Nat} (hs0 : mw_cl ks0 = some 6) : mj_exec X d 103 73 [some (.ref 22), some (.int x1), some (.int x2), some (.int x3), some (.int x4)] [.ref ks0] (mw_U s) = mj_exec X d 103 75 [some (.ref 22), some (.int x1), some (.int x2), some (.int x3), some (.int x4)] [.int (-15), .ref ks0] (mw_U s) := mj_q_bipush mw_m103 d103_73 mw_k_bipush_m15
theorem b103_75 {X : mj_X} {d : Nat} {s : mw_S} {x1 : Int32} {x2 : Int32} {x3 : Int32} {x4 : Int32} {ks0 : Nat} {xs1 : Int32} (hs0 : mw_cl ks0 = some 6) : mj_exec X (d + 1) 103 75 [some (.ref 22), some (.int x1), some (.int x2), some (.int x3), some (.int x4)] [.int xs1, .ref ks0] (mw_U s) = (mj_call X d 123 [.ref ks0, .int xs1] (mw_U s)).bind (mj_bk X (d + 1) 103 78 [some (.ref 22), some (.int x1), some (.int x2), some (.int x3), some (.int x4)] []) := mw_q_callv mw_m103 rfl d103_75 mw_p5_153 mw_m123 rfl rfl (Nat.le_of_ble_eq_true rfl) (Nat.le_of_ble_eq_true rfl) rfl (mw_rcv hs0) rfl rfl
theorem b103_78 {X : mj_X} {d : Nat} {s : mw_S} {x1 : Int32} {x2 : Int32} {x3 : Int32} {x4 : Int32}  : mj_exec X d 103 78 [some (.ref 22), some (.int x1), some (.int x2), some (.int x3), some (.int x4)] [] (mw_U s) = mj_exec X d 103 8 [some (.ref 22), some (.int x1), some (.int x2), some (.int (x3 + (nI 1))), some (.int x4)] [] (mw_U s) := (mj_q_iinc mw_m103 d103_78 rfl (Nat.le_of_ble_eq_true rfl) rfl mw_k_iconst_1 rfl).trans (mj_q_goto mw_m103 d103_81 rfl)
theorem b103_84 {X : mj_X} {d : Nat} {s : mw_S} {x1 : Int32} {x2 : Int32} {x3 : Int32} {l4 : Option Value}  : mj_exec X d 103 84 [some (.ref 22), some (.int x1), some (.int x2), some (.int x3), l4] [] (mw_U s) = if mj_rfit (some .boolean) x2 = true then some (.inl (some (.int x2)), mw_U s) else none := (mj_q_iload_n mw_m103 d103_84 rfl).trans (mw_h_iret mw_m103 d103_85 rfl)
/-- WivesQuarrels$Reader.readPart -/
theorem d104_0 : decode prog_8_method_23_code 0 = .ok (.aload_n 0, 1) := by decide +kernel
theorem d104_1 : decode prog_8_method_23_code 1 = .ok (.getfield 12, 3) := by decide +kernel
theorem d104_4 : decode prog_8_method_23_code 4 = .ok (.invokevirtual 171, 3) := by decide +kernel
theorem d104_7 : decode prog_8_method_23_code 7 = .ok (.ifCond .eq 27, 3) := by decide +kernel
theorem d104_10 : decode prog_8_method_23_code 10 = .ok (.aload_n 0, 1) := by decide +kernel
theorem d104_11 : decode prog_8_method_23_code 11 = .ok (.getfield 28, 3) := by decide +kernel
theorem d104_14 : decode prog_8_method_23_code 14 = .ok (.aload_n 0, 1) := by decide +kernel
theorem d104_15 : decode prog_8_method_23_code 15 = .ok (.getfield 12, 3) := by decide +kernel
theorem d104_18 : decode prog_8_method_23_code 18 = .ok (.invokevirtual 47, 3) := by decide +kernel
theorem d104_21 : decode prog_8_method_23_code 21 = .ok (.sipush 200, 3) := by decide +kernel
theorem d104_24 : decode prog_8_method_23_code 24 = .ok (.isub, 1) := by decide +kernel
theorem d104_25 : decode prog_8_method_23_code 25 = .ok (.bipush 6, 2) := by decide +kernel
theorem d104_27 : decode prog_8_method_23_code 27 = .ok (.isub, 1) := by decide +kernel
theorem d104_28 : decode prog_8_method_23_code 28 = .ok (.invokevirtual 153, 3) := by decide +kernel
theorem d104_31 : decode prog_8_method_23_code 31 = .ok (.goto 115, 3) := by decide +kernel
theorem d104_34 : decode prog_8_method_23_code 34 = .ok (.aload_n 0, 1) := by decide +kernel
theorem d104_35 : decode prog_8_method_23_code 35 = .ok (.getfield 12, 3) := by decide +kernel
theorem d104_38 : decode prog_8_method_23_code 38 = .ok (.invokevirtual 147, 3) := by decide +kernel
theorem d104_41 : decode prog_8_method_23_code 41 = .ok (.ifCond .eq 9, 3) := by decide +kernel
theorem d104_44 : decode prog_8_method_23_code 44 = .ok (.aload_n 0, 1) := by decide +kernel
theorem d104_45 : decode prog_8_method_23_code 45 = .ok (.iconst 3, 1) := by decide +kernel
theorem d104_46 : decode prog_8_method_23_code 46 = .ok (.invokevirtual 62, 3) := by decide +kernel
theorem d104_49 : decode prog_8_method_23_code 49 = .ok (.ireturn, 1) := by decide +kernel
theorem d104_50 : decode prog_8_method_23_code 50 = .ok (.aload_n 0, 1) := by decide +kernel
theorem d104_51 : decode prog_8_method_23_code 51 = .ok (.getfield 12, 3) := by decide +kernel
theorem d104_54 : decode prog_8_method_23_code 54 = .ok (.invokevirtual 47, 3) := by decide +kernel
theorem d104_57 : decode prog_8_method_23_code 57 = .ok (.bipush 40, 2) := by decide +kernel
theorem d104_59 : decode prog_8_method_23_code 59 = .ok (.if_icmp .ne 40, 3) := by decide +kernel
theorem d104_62 : decode prog_8_method_23_code 62 = .ok (.aload_n 0, 1) := by decide +kernel
theorem d104_63 : decode prog_8_method_23_code 63 = .ok (.getfield 12, 3) := by decide +kernel
theorem d104_66 : decode prog_8_method_23_code 66 = .ok (.invokevirtual 65, 3) := by decide +kernel
theorem d104_69 : decode prog_8_method_23_code 69 = .ok (.aload_n 0, 1) := by decide +kernel
theorem d104_70 : decode prog_8_method_23_code 70 = .ok (.iload_n 1, 1) := by decide +kernel
theorem d104_71 : decode prog_8_method_23_code 71 = .ok (.iconst 1, 1) := by decide +kernel
theorem d104_72 : decode prog_8_method_23_code 72 = .ok (.iadd, 1) := by decide +kernel
theorem d104_73 : decode prog_8_method_23_code 73 = .ok (.invokevirtual 132, 3) := by decide +kernel
theorem d104_76 : decode prog_8_method_23_code 76 = .ok (.ifCond .ne 5, 3) := by decide +kernel
theorem d104_79 : decode prog_8_method_23_code 79 = .ok (.iconst 0, 1) := by decide +kernel
theorem d104_80 : decode prog_8_method_23_code 80 = .ok (.ireturn, 1) := by decide +kernel
theorem d104_81 : decode prog_8_method_23_code 81 = .ok (.aload_n 0, 1) := by decide +kernel
theorem d104_82 : decode prog_8_method_23_code 82 = .ok (.getfield 12, 3) := by decide +kernel
theorem d104_85 : decode prog_8_method_23_code 85 = .ok (.invokevirtual 47, 3) := by decide +kernel
theorem d104_88 : decode prog_8_method_23_code 88 = .ok (.bipush 41, 2) := by decide +kernel
theorem d104_90 : decode prog_8_method_23_code 90 = .ok (.if_icmp .eq 56, 3) := by decide +kernel
theorem d104_93 : decode prog_8_method_23_code 93 = .ok (.aload_n 0, 1) := by decide +kernel
theorem d104_94 : decode prog_8_method_23_code 94 = .ok (.iconst 1, 1) := by decide +kernel
theorem d104_95 : decode prog_8_method_23_code 95 = .ok (.invokevirtual 62, 3) := by decide +kernel
theorem d104_98 : decode prog_8_method_23_code 98 = .ok (.ireturn, 1) := by decide +kernel
theorem d104_99 : decode prog_8_method_23_code 99 = .ok (.aload_n 0, 1) := by decide +kernel
theorem d104_100 : decode prog_8_method_23_code 100 = .ok (.getfield 12, 3) := by decide +kernel
theorem d104_103 : decode prog_8_method_23_code 103 = .ok (.invokevirtual 47, 3) := by decide +kernel
theorem d104_106 : decode prog_8_method_23_code 106 = .ok (.iconst 2, 1) := by decide +kernel
theorem d104_107 : decode prog_8_method_23_code 107 = .ok (.if_icmp .eq 9, 3) := by decide +kernel
theorem d104_110 : decode prog_8_method_23_code 110 = .ok (.aload_n 0, 1) := by decide +kernel
theorem d104_111 : decode prog_8_method_23_code 111 = .ok (.iconst 1, 1) := by decide +kernel
theorem d104_112 : decode prog_8_method_23_code 112 = .ok (.invokevirtual 62, 3) := by decide +kernel
theorem d104_115 : decode prog_8_method_23_code 115 = .ok (.ireturn, 1) := by decide +kernel
theorem d104_116 : decode prog_8_method_23_code 116 = .ok (.aload_n 0, 1) := by decide +kernel
theorem d104_117 : decode prog_8_method_23_code 117 = .ok (.getfield 12, 3) := by decide +kernel
theorem d104_120 : decode prog_8_method_23_code 120 = .ok (.invokevirtual 87, 3) := by decide +kernel
theorem d104_123 : decode prog_8_method_23_code 123 = .ok (.ifCond .eq 9, 3) := by decide +kernel
theorem d104_126 : decode prog_8_method_23_code 126 = .ok (.aload_n 0, 1) := by decide +kernel
theorem d104_127 : decode prog_8_method_23_code 127 = .ok (.iconst 2, 1) := by decide +kernel
theorem d104_128 : decode prog_8_method_23_code 128 = .ok (.invokevirtual 62, 3) := by decide +kernel
theorem d104_131 : decode prog_8_method_23_code 131 = .ok (.ireturn, 1) := by decide +kernel
theorem d104_132 : decode prog_8_method_23_code 132 = .ok (.aload_n 0, 1) := by decide +kernel
theorem d104_133 : decode prog_8_method_23_code 133 = .ok (.getfield 28, 3) := by decide +kernel
theorem d104_136 : decode prog_8_method_23_code 136 = .ok (.aload_n 0, 1) := by decide +kernel
theorem d104_137 : decode prog_8_method_23_code 137 = .ok (.getfield 12, 3) := by decide +kernel
theorem d104_140 : decode prog_8_method_23_code 140 = .ok (.invokevirtual 84, 3) := by decide +kernel
theorem d104_143 : decode prog_8_method_23_code 143 = .ok (.invokevirtual 153, 3) := by decide +kernel
theorem d104_146 : decode prog_8_method_23_code 146 = .ok (.aload_n 0, 1) := by decide +kernel
theorem d104_147 : decode prog_8_method_23_code 147 = .ok (.getfield 12, 3) := by decide +kernel
theorem d104_150 : decode prog_8_method_23_code 150 = .ok (.invokevirtual 65, 3) := by decide +kernel
theorem d104_153 : decode prog_8_method_23_code 153 = .ok (.iconst 1, 1) := by decide +kernel
theorem d104_154 : decode prog_8_method_23_code 154 = .ok (.ireturn, 1) := by decide +kernel
theorem b104 {X : mj_X} {d : Nat} {w : mj_W} {x0 : Nat} {x1 : Int32} : mj_call X d 104 [.ref x0, .int x1] w = mj_exec X d 104 0 [some (.ref x0), some (.int x1)] [] w := mw_ent mw_m104 (Nat.le_of_ble_eq_true rfl) rfl
theorem b104_0 {X : mj_X} {d : Nat} {s : mw_S} {x1 : Int32}  : mj_exec X (d + 1) 104 0 [some (.ref 22), some (.int x1)] [] (mw_U s) = (mj_call X d 140 [.ref 23] (mw_U s)).bind (mj_bk X (d + 1) 104 7 [some (.ref 22), some (.int x1)] []) := (mj_q_aload_n mw_m104 d104_0 rfl (by decide)).trans ((mw_q_getr mw_m104 d104_1 mw_p5_12 mw_c_22 mw_f_22_0).trans (mw_q_callv mw_m104 rfl d104_4 mw_p5_171 mw_m140 rfl rfl (Nat.le_of_ble_eq_true rfl) (Nat.le_of_ble_eq_true rfl) rfl (mw_rcv mw_c_23) rfl rfl))
theorem b104_7 {X : mj_X} {d : Nat} {s : mw_S} {x1 : Int32} {xs0 : Int32}  : mj_exec X d 104 7 [some (.ref 22), some (.int x1)] [.int xs0] (mw_U s) = if xs0 = 0 then mj_exec X d 104 34 [some (.ref 22), some (.int x1)] [] (mw_U s) else mj_exec X d 104 10 [some (.ref 22), some (.int x1)] [] (mw_U s) := mj_q_if_eq mw_m104 d104_7 rfl
theorem b104_10 {X : mj_X} {d : Nat} {s : mw_S} {x1 : Int32}  : mj_exec X (d + 1) 104 10 [some (.ref 22), some (.int x1)] [] (mw_U s) = (mj_call X d 135 [.ref 23] (mw_U s)).bind (mj_bk X (d + 1) 104 21 [some (.ref 22), some (.int x1)] [.ref 27]) := (mj_q_aload_n mw_m104 d104_10 rfl (by decide)).trans ((mw_q_getr mw_m104 d104_11 mw_p5_28 mw_c_22 mw_f_22_2).trans ((mj_q_aload_n mw_m104 d104_14 rfl (by decide)).trans ((mw_q_getr mw_m104 d104_15 mw_p5_12 mw_c_22 mw_f_22_0).trans (mw_q_callv mw_m104 rfl d104_18 mw_p5_47 mw_m135 rfl rfl (Nat.le_of_ble_eq_true rfl) (Nat.le_of_ble_eq_true rfl) rfl (mw_rcv mw_c_23) rfl rfl))))
theorem b104_21 {X : mj_X} {d : Nat} {s : mw_S} {x1 : Int32} {ks0 : Nat} {xs1 : Int32} (hs0 : mw_cl ks0 = some 6) : mj_exec X (d + 1) 104 21 [some (.ref 22), some (.int x1)] [.int xs1, .ref ks0] (mw_U s) = (mj_call X d 123 [.ref ks0, .int ((xs1 - (nI 200)) - (nI 6))] (mw_U s)).bind (mj_bk X (d + 1) 104 31 [some (.ref 22), some (.int x1)] []) := (mj_q_sipush mw_m104 d104_21 mw_k_sipush_200).trans ((mj_q_isub mw_m104 d104_24).trans ((mj_q_bipush mw_m104 d104_25 mw_k_bipush_6).trans ((mj_q_isub mw_m104 d104_27).trans (mw_q_callv mw_m104 rfl d104_28 mw_p5_153 mw_m123 rfl rfl (Nat.le_of_ble_eq_true rfl) (Nat.le_of_ble_eq_true rfl) rfl (mw_rcv hs0) rfl rfl))))
theorem b104_31 {X : mj_X} {d : Nat} {s : mw_S} {x1 : Int32}  : mj_exec X d 104 31 [some (.ref 22), some (.int x1)] [] (mw_U s) = mj_exec X d 104 146 [some (.ref 22), some (.int x1)] [] (mw_U s) := mj_q_goto mw_m104 d104_31 rfl
theorem b104_34 {X : mj_X} {d : Nat} {s : mw_S} {x1 : Int32}  : mj_exec X (d + 1) 104 34 [some (.ref 22), some (.int x1)] [] (mw_U s) = (mj_call X d 139 [.ref 23] (mw_U s)).bind (mj_bk X (d + 1) 104 41 [some (.ref 22), some (.int x1)] []) := (mj_q_aload_n mw_m104 d104_34 rfl (by decide)).trans ((mw_q_getr mw_m104 d104_35 mw_p5_12 mw_c_22 mw_f_22_0).trans (mw_q_callv mw_m104 rfl d104_38 mw_p5_147 mw_m139 rfl rfl (Nat.le_of_ble_eq_true rfl) (Nat.le_of_ble_eq_true rfl) rfl (mw_rcv mw_c_23) rfl rfl))
theorem b104_41 {X : mj_X} {d : Nat} {s : mw_S} {x1 : Int32} {xs0 : Int32}  : mj_exec X d 104 41 [some (.ref 22), some (.int x1)] [.int xs0] (mw_U s) = if xs0 = 0 then mj_exec X d 104 50 [some (.ref 22), some (.int x1)] [] (mw_U s) else mj_exec X d 104 44 [some (.ref 22), some (.int x1)] [] (mw_U s) := mj_q_if_eq mw_m104 d104_41 rfl
theorem b104_44 {X : mj_X} {d : Nat} {s : mw_S} {x1 : Int32}  : mj_exec X (d + 1) 104 44 [some (.ref 22), some (.int x1)] [] (mw_U s) = (mj_call X d 92 [.ref 22, .int (nI 3)] (mw_U s)).bind (mj_bk X (d + 1) 104 49 [some (.ref 22), some (.int x1)] []) := (mj_q_aload_n mw_m104 d104_44 rfl (by decide)).trans ((mj_q_iconst mw_m104 d104_45 mw_k_iconst_3).trans (mw_q_callv mw_m104 rfl d104_46 mw_p5_62 mw_m92 rfl rfl (Nat.le_of_ble_eq_true rfl) (Nat.le_of_ble_eq_true rfl) rfl (mw_rcv mw_c_22) rfl rfl))
theorem b104_49 {X : mj_X} {d : Nat} {s : mw_S} {x1 : Int32} {xs0 : Int32}  : mj_exec X d 104 49 [some (.ref 22), some (.int x1)] [.int xs0] (mw_U s) = if mj_rfit (some .boolean) xs0 = true then some (.inl (some (.int xs0)), mw_U s) else none := mw_h_iret mw_m104 d104_49 rfl
theorem b104_50 {X : mj_X} {d : Nat} {s : mw_S} {x1 : Int32}  : mj_exec X (d + 1) 104 50 [some (.ref 22), some (.int x1)] [] (mw_U s) = (mj_call X d 135 [.ref 23] (mw_U s)).bind (mj_bk X (d + 1) 104 57 [some (.ref 22), some (.int x1)] []) := (mj_q_aload_n mw_m104 d104_50 rfl (by decide)).trans ((mw_q_getr mw_m104 d104_51 mw_p5_12 mw_c_22 mw_f_22_0).trans (mw_q_callv mw_m104 rfl d104_54 mw_p5_47 mw_m135 rfl rfl (Nat.le_of_ble_eq_true rfl) (Nat.le_of_ble_eq_true rfl) rfl (mw_rcv mw_c_23) rfl rfl))
theorem b104_57 {X : mj_X} {d : Nat} {s : mw_S} {x1 : Int32} {xs0 : Int32}  : mj_exec X d 104 57 [some (.ref 22), some (.int x1)] [.int xs0] (mw_U s) = if xs0 = (nI 40) then mj_exec X d 104 62 [some (.ref 22), some (.int x1)] [] (mw_U s) else mj_exec X d 104 99 [some (.ref 22), some (.int x1)] [] (mw_U s) := (mj_q_bipush mw_m104 d104_57 mw_k_bipush_40).trans (mj_q_icmp_ne mw_m104 d104_59 rfl)
theorem b104_62 {X : mj_X} {d : Nat} {s : mw_S} {x1 : Int32}  : mj_exec X (d + 1) 104 62 [some (.ref 22), some (.int x1)] [] (mw_U s) = (mj_call X d 131 [.ref 23] (mw_U s)).bind (mj_bk X (d + 1) 104 69 [some (.ref 22), some (.int x1)] []) := (mj_q_aload_n mw_m104 d104_62 rfl (by decide)).trans ((mw_q_getr mw_m104 d104_63 mw_p5_12 mw_c_22 mw_f_22_0).trans (mw_q_callv mw_m104 rfl d104_66 mw_p5_65 mw_m131 rfl rfl (Nat.le_of_ble_eq_true rfl) (Nat.le_of_ble_eq_true rfl) rfl (mw_rcv mw_c_23) rfl rfl))
theorem b104_69 {X : mj_X} {d : Nat} {s : mw_S} {x1 : Int32}  : mj_exec X (d + 1) 104 69 [some (.ref 22), some (.int x1)] [] (mw_U s) = (mj_call X d 98 [.ref 22, .int (x1 + (nI 1))] (mw_U s)).bind (mj_bk X (d + 1) 104 76 [some (.ref 22), some (.int x1)] []) := (mj_q_aload_n mw_m104 d104_69 rfl (by decide)).trans ((mj_q_iload_n mw_m104 d104_70 rfl).trans ((mj_q_iconst mw_m104 d104_71 mw_k_iconst_1).trans ((mj_q_iadd mw_m104 d104_72).trans (mw_q_callv mw_m104 rfl d104_73 mw_p5_132 mw_m98 rfl rfl (Nat.le_of_ble_eq_true rfl) (Nat.le_of_ble_eq_true rfl) rfl (mw_rcv mw_c_22) rfl rfl))))
theorem b104_76 {X : mj_X} {d : Nat} {s : mw_S} {x1 : Int32} {xs0 : Int32}  : mj_exec X d 104 76 [some (.ref 22), some (.int x1)] [.int xs0] (mw_U s) = if xs0 = 0 then mj_exec X d 104 79 [some (.ref 22), some (.int x1)] [] (mw_U s) else mj_exec X d 104 81 [some (.ref 22), some (.int x1)] [] (mw_U s) := mj_q_if_ne mw_m104 d104_76 rfl
theorem b104_79 {X : mj_X} {d : Nat} {s : mw_S} {x1 : Int32}  : mj_exec X d 104 79 [some (.ref 22), some (.int x1)] [] (mw_U s) = some (.inl (some (.int (nI 0))), mw_U s) := (mj_q_iconst mw_m104 d104_79 mw_k_iconst_0).trans (mj_q_iret mw_m104 d104_80 (by decide))
theorem b104_81 {X : mj_X} {d : Nat} {s : mw_S} {x1 : Int32}  : mj_exec X (d + 1) 104 81 [some (.ref 22), some (.int x1)] [] (mw_U s) = (mj_call X d 135 [.ref 23] (mw_U s)).bind (mj_bk X (d + 1) 104 88 [some (.ref 22), some (.int x1)] []) := (mj_q_aload_n mw_m104 d104_81 rfl (by decide)).trans ((mw_q_getr mw_m104 d104_82 mw_p5_12 mw_c_22 mw_f_22_0).trans (mw_q_callv mw_m104 rfl d104_85 mw_p5_47 mw_m135 rfl rfl (Nat.le_of_ble_eq_true rfl) (Nat.le_of_ble_eq_true rfl) rfl (mw_rcv mw_c_23) rfl rfl))
theorem b104_88 {X : mj_X} {d : Nat} {s : mw_S} {x1 : Int32} {xs0 : Int32}  : mj_exec X d 104 88 [some (.ref 22), some (.int x1)] [.int xs0] (mw_U s) = if xs0 = (nI 41) then mj_exec X d 104 146 [some (.ref 22), some (.int x1)] [] (mw_U s) else mj_exec X d 104 93 [some (.ref 22), some (.int x1)] [] (mw_U s) := (mj_q_bipush mw_m104 d104_88 mw_k_bipush_41).trans (mj_q_icmp_eq mw_m104 d104_90 rfl)
theorem b104_93 {X : mj_X} {d : Nat} {s : mw_S} {x1 : Int32}  : mj_exec X (d + 1) 104 93 [some (.ref 22), some (.int x1)] [] (mw_U s) = (mj_call X d 92 [.ref 22, .int (nI 1)] (mw_U s)).bind (mj_bk X (d + 1) 104 98 [some (.ref 22), some (.int x1)] []) := (mj_q_aload_n mw_m104 d104_93 rfl (by decide)).trans ((mj_q_iconst mw_m104 d104_94 mw_k_iconst_1).trans (mw_q_callv mw_m104 rfl d104_95 mw_p5_62 mw_m92 rfl rfl (Nat.le_of_ble_eq_true rfl) (Nat.le_of_ble_eq_true rfl) rfl (mw_rcv mw_c_22) rfl rfl))
theorem b104_98 {X : mj_X} {d : Nat} {s : mw_S} {x1 : Int32} {xs0 : Int32}  : mj_exec X d 104 98 [some (.ref 22), some (.int x1)] [.int xs0] (mw_U s) = if mj_rfit (some .boolean) xs0 = true then some (.inl (some (.int xs0)), mw_U s) else none := mw_h_iret mw_m104 d104_98 rfl
theorem b104_99 {X : mj_X} {d : Nat} {s : mw_S} {x1 : Int32}  : mj_exec X (d + 1) 104 99 [some (.ref 22), some (.int x1)] [] (mw_U s) = (mj_call X d 135 [.ref 23] (mw_U s)).bind (mj_bk X (d + 1) 104 106 [some (.ref 22), some (.int x1)] []) := (mj_q_aload_n mw_m104 d104_99 rfl (by decide)).trans ((mw_q_getr mw_m104 d104_100 mw_p5_12 mw_c_22 mw_f_22_0).trans (mw_q_callv mw_m104 rfl d104_103 mw_p5_47 mw_m135 rfl rfl (Nat.le_of_ble_eq_true rfl) (Nat.le_of_ble_eq_true rfl) rfl (mw_rcv mw_c_23) rfl rfl))
theorem b104_106 {X : mj_X} {d : Nat} {s : mw_S} {x1 : Int32} {xs0 : Int32}  : mj_exec X d 104 106 [some (.ref 22), some (.int x1)] [.int xs0] (mw_U s) = if xs0 = (nI 2) then mj_exec X d 104 116 [some (.ref 22), some (.int x1)] [] (mw_U s) else mj_exec X d 104 110 [some (.ref 22), some (.int x1)] [] (mw_U s) := (mj_q_iconst mw_m104 d104_106 mw_k_iconst_2).trans (mj_q_icmp_eq mw_m104 d104_107 rfl)
theorem b104_110 {X : mj_X} {d : Nat} {s : mw_S} {x1 : Int32}  : mj_exec X (d + 1) 104 110 [some (.ref 22), some (.int x1)] [] (mw_U s) = (mj_call X d 92 [.ref 22, .int (nI 1)] (mw_U s)).bind (mj_bk X (d + 1) 104 115 [some (.ref 22), some (.int x1)] []) := (mj_q_aload_n mw_m104 d104_110 rfl (by decide)).trans ((mj_q_iconst mw_m104 d104_111 mw_k_iconst_1).trans (mw_q_callv mw_m104 rfl d104_112 mw_p5_62 mw_m92 rfl rfl (Nat.le_of_ble_eq_true rfl) (Nat.le_of_ble_eq_true rfl) rfl (mw_rcv mw_c_22) rfl rfl))
theorem b104_115 {X : mj_X} {d : Nat} {s : mw_S} {x1 : Int32} {xs0 : Int32}  : mj_exec X d 104 115 [some (.ref 22), some (.int x1)] [.int xs0] (mw_U s) = if mj_rfit (some .boolean) xs0 = true then some (.inl (some (.int xs0)), mw_U s) else none := mw_h_iret mw_m104 d104_115 rfl
theorem b104_116 {X : mj_X} {d : Nat} {s : mw_S} {x1 : Int32}  : mj_exec X (d + 1) 104 116 [some (.ref 22), some (.int x1)] [] (mw_U s) = (mj_call X d 138 [.ref 23] (mw_U s)).bind (mj_bk X (d + 1) 104 123 [some (.ref 22), some (.int x1)] []) := (mj_q_aload_n mw_m104 d104_116 rfl (by decide)).trans ((mw_q_getr mw_m104 d104_117 mw_p5_12 mw_c_22 mw_f_22_0).trans (mw_q_callv mw_m104 rfl d104_120 mw_p5_87 mw_m138 rfl rfl (Nat.le_of_ble_eq_true rfl) (Nat.le_of_ble_eq_true rfl) rfl (mw_rcv mw_c_23) rfl rfl))
theorem b104_123 {X : mj_X} {d : Nat} {s : mw_S} {x1 : Int32} {xs0 : Int32}  : mj_exec X d 104 123 [some (.ref 22), some (.int x1)] [.int xs0] (mw_U s) = if xs0 = 0 then mj_exec X d 104 132 [some (.ref 22), some (.int x1)] [] (mw_U s) else mj_exec X d 104 126 [some (.ref 22), some (.int x1)] [] (mw_U s) := mj_q_if_eq mw_m104 d104_123 rfl
theorem b104_126 {X : mj_X} {d : Nat} {s : mw_S} {x1 : Int32}  : mj_exec X (d + 1) 104 126 [some (.ref 22), some (.int x1)] [] (mw_U s) = (mj_call X d 92 [.ref 22, .int (nI 2)] (mw_U s)).bind (mj_bk X (d + 1) 104 131 [some (.ref 22), some (.int x1)] []) := (mj_q_aload_n mw_m104 d104_126 rfl (by decide)).trans ((mj_q_iconst mw_m104 d104_127 mw_k_iconst_2).trans (mw_q_callv mw_m104 rfl d104_128 mw_p5_62 mw_m92 rfl rfl (Nat.le_of_ble_eq_true rfl) (Nat.le_of_ble_eq_true rfl) rfl (mw_rcv mw_c_22) rfl rfl))
theorem b104_131 {X : mj_X} {d : Nat} {s : mw_S} {x1 : Int32} {xs0 : Int32}  : mj_exec X d 104 131 [some (.ref 22), some (.int x1)] [.int xs0] (mw_U s) = if mj_rfit (some .boolean) xs0 = true then some (.inl (some (.int xs0)), mw_U s) else none := mw_h_iret mw_m104 d104_131 rfl
theorem b104_132 {X : mj_X} {d : Nat} {s : mw_S} {x1 : Int32}  : mj_exec X (d + 1) 104 132 [some (.ref 22), some (.int x1)] [] (mw_U s) = (mj_call X d 137 [.ref 23] (mw_U s)).bind (mj_bk X (d + 1) 104 143 [some (.ref 22), some (.int x1)] [.ref 27]) := (mj_q_aload_n mw_m104 d104_132 rfl (by decide)).trans ((mw_q_getr mw_m104 d104_133 mw_p5_28 mw_c_22 mw_f_22_2).trans ((mj_q_aload_n mw_m104 d104_136 rfl (by decide)).trans ((mw_q_getr mw_m104 d104_137 mw_p5_12 mw_c_22 mw_f_22_0).trans (mw_q_callv mw_m104 rfl d104_140 mw_p5_84 mw_m137 rfl rfl (Nat.le_of_ble_eq_true rfl) (Nat.le_of_ble_eq_true rfl) rfl (mw_rcv mw_c_23) rfl rfl))))
theorem b104_143 {X : mj_X} {d : Nat} {s : mw_S} {x1 : Int32} {ks0 : Nat} {xs1 : Int32} (hs0 : mw_cl ks0 = some 6) : mj_exec X (d + 1) 104 143 [some (.ref 22), some (.int x1)] [.int xs1, .ref ks0] (mw_U s) = (mj_call X d 123 [.ref ks0, .int xs1] (mw_U s)).bind (mj_bk X (d + 1) 104 146 [some (.ref 22), some (.int x1)] []) := mw_q_callv mw_m104 rfl d104_143 mw_p5_153 mw_m123 rfl rfl (Nat.le_of_ble_eq_true rfl) (Nat.le_of_ble_eq_true rfl) rfl (mw_rcv hs0) rfl rfl
theorem b104_146 {X : mj_X} {d : Nat} {s : mw_S} {x1 : Int32}  : mj_exec X (d + 1) 104 146 [some (.ref 22), some (.int x1)] [] (mw_U s) = (mj_call X d 131 [.ref 23] (mw_U s)).bind (mj_bk X (d + 1) 104 153 [some (.ref 22), some (.int x1)] []) := (mj_q_aload_n mw_m104 d104_146 rfl (by decide)).trans ((mw_q_getr mw_m104 d104_147 mw_p5_12 mw_c_22 mw_f_22_0).trans (mw_q_callv mw_m104 rfl d104_150 mw_p5_65 mw_m131 rfl rfl (Nat.le_of_ble_eq_true rfl) (Nat.le_of_ble_eq_true rfl) rfl (mw_rcv mw_c_23) rfl rfl))
theorem b104_153 {X : mj_X} {d : Nat} {s : mw_S} {x1 : Int32}  : mj_exec X d 104 153 [some (.ref 22), some (.int x1)] [] (mw_U s) = some (.inl (some (.int (nI 1))), mw_U s) := (mj_q_iconst mw_m104 d104_153 mw_k_iconst_1).trans (mj_q_iret mw_m104 d104_154 (by decide))
/-- WivesQuarrels$Reader.readCuts -/
theorem d105_0 : decode prog_8_method_16_code 0 = .ok (.aload_n 0, 1) := by decide +kernel
theorem d105_1 : decode prog_8_method_16_code 1 = .ok (.getfield 28, 3) := by decide +kernel
theorem d105_4 : decode prog_8_method_16_code 4 = .ok (.invokevirtual 138, 3) := by decide +kernel
theorem d105_7 : decode prog_8_method_16_code 7 = .ok (.ifCond .eq 9, 3) := by decide +kernel
theorem d105_10 : decode prog_8_method_16_code 10 = .ok (.aload_n 0, 1) := by decide +kernel
theorem d105_11 : decode prog_8_method_16_code 11 = .ok (.iconst 5, 1) := by decide +kernel
theorem d105_12 : decode prog_8_method_16_code 12 = .ok (.invokevirtual 62, 3) := by decide +kernel
theorem d105_15 : decode prog_8_method_16_code 15 = .ok (.ireturn, 1) := by decide +kernel
theorem d105_16 : decode prog_8_method_16_code 16 = .ok (.aload_n 0, 1) := by decide +kernel
theorem d105_17 : decode prog_8_method_16_code 17 = .ok (.getfield 12, 3) := by decide +kernel
theorem d105_20 : decode prog_8_method_16_code 20 = .ok (.invokevirtual 65, 3) := by decide +kernel
theorem d105_23 : decode prog_8_method_16_code 23 = .ok (.aload_n 0, 1) := by decide +kernel
theorem d105_24 : decode prog_8_method_16_code 24 = .ok (.getfield 28, 3) := by decide +kernel
theorem d105_27 : decode prog_8_method_16_code 27 = .ok (.invokevirtual 141, 3) := by decide +kernel
theorem d105_30 : decode prog_8_method_16_code 30 = .ok (.aload_n 0, 1) := by decide +kernel
theorem d105_31 : decode prog_8_method_16_code 31 = .ok (.iconst 0, 1) := by decide +kernel
theorem d105_32 : decode prog_8_method_16_code 32 = .ok (.invokevirtual 132, 3) := by decide +kernel
theorem d105_35 : decode prog_8_method_16_code 35 = .ok (.istore_n 1, 1) := by decide +kernel
theorem d105_36 : decode prog_8_method_16_code 36 = .ok (.aload_n 0, 1) := by decide +kernel
theorem d105_37 : decode prog_8_method_16_code 37 = .ok (.getfield 28, 3) := by decide +kernel
theorem d105_40 : decode prog_8_method_16_code 40 = .ok (.invokevirtual 144, 3) := by decide +kernel
theorem d105_43 : decode prog_8_method_16_code 43 = .ok (.iload_n 1, 1) := by decide +kernel
theorem d105_44 : decode prog_8_method_16_code 44 = .ok (.ireturn, 1) := by decide +kernel
theorem b105 {X : mj_X} {d : Nat} {w : mj_W} {x0 : Nat} : mj_call X d 105 [.ref x0] w = mj_exec X d 105 0 [some (.ref x0), none] [] w := mw_ent mw_m105 (Nat.le_of_ble_eq_true rfl) rfl
theorem b105_0 {X : mj_X} {d : Nat} {s : mw_S} {l1 : Option Value}  : mj_exec X (d + 1) 105 0 [some (.ref 22), l1] [] (mw_U s) = (mj_call X d 120 [.ref 27] (mw_U s)).bind (mj_bk X (d + 1) 105 7 [some (.ref 22), l1] []) := (mj_q_aload_n mw_m105 d105_0 rfl (by decide)).trans ((mw_q_getr mw_m105 d105_1 mw_p5_28 mw_c_22 mw_f_22_2).trans (mw_q_callv mw_m105 rfl d105_4 mw_p5_138 mw_m120 rfl rfl (Nat.le_of_ble_eq_true rfl) (Nat.le_of_ble_eq_true rfl) rfl (mw_rcv mw_c_27) rfl rfl))
theorem b105_7 {X : mj_X} {d : Nat} {s : mw_S} {l1 : Option Value} {xs0 : Int32}  : mj_exec X d 105 7 [some (.ref 22), l1] [.int xs0] (mw_U s) = if xs0 = 0 then mj_exec X d 105 16 [some (.ref 22), l1] [] (mw_U s) else mj_exec X d 105 10 [some (.ref 22), l1] [] (mw_U s) := mj_q_if_eq mw_m105 d105_7 rfl
theorem b105_10 {X : mj_X} {d : Nat} {s : mw_S} {l1 : Option Value}  : mj_exec X (d + 1) 105 10 [some (.ref 22), l1] [] (mw_U s) = (mj_call X d 92 [.ref 22, .int (nI 5)] (mw_U s)).bind (mj_bk X (d + 1) 105 15 [some (.ref 22), l1] []) := (mj_q_aload_n mw_m105 d105_10 rfl (by decide)).trans ((mj_q_iconst mw_m105 d105_11 mw_k_iconst_5).trans (mw_q_callv mw_m105 rfl d105_12 mw_p5_62 mw_m92 rfl rfl (Nat.le_of_ble_eq_true rfl) (Nat.le_of_ble_eq_true rfl) rfl (mw_rcv mw_c_22) rfl rfl))
theorem b105_15 {X : mj_X} {d : Nat} {s : mw_S} {l1 : Option Value} {xs0 : Int32}  : mj_exec X d 105 15 [some (.ref 22), l1] [.int xs0] (mw_U s) = if mj_rfit (some .boolean) xs0 = true then some (.inl (some (.int xs0)), mw_U s) else none := mw_h_iret mw_m105 d105_15 rfl
theorem b105_16 {X : mj_X} {d : Nat} {s : mw_S} {l1 : Option Value}  : mj_exec X (d + 1) 105 16 [some (.ref 22), l1] [] (mw_U s) = (mj_call X d 131 [.ref 23] (mw_U s)).bind (mj_bk X (d + 1) 105 23 [some (.ref 22), l1] []) := (mj_q_aload_n mw_m105 d105_16 rfl (by decide)).trans ((mw_q_getr mw_m105 d105_17 mw_p5_12 mw_c_22 mw_f_22_0).trans (mw_q_callv mw_m105 rfl d105_20 mw_p5_65 mw_m131 rfl rfl (Nat.le_of_ble_eq_true rfl) (Nat.le_of_ble_eq_true rfl) rfl (mw_rcv mw_c_23) rfl rfl))
theorem b105_23 {X : mj_X} {d : Nat} {s : mw_S} {l1 : Option Value}  : mj_exec X (d + 1) 105 23 [some (.ref 22), l1] [] (mw_U s) = (mj_call X d 125 [.ref 27] (mw_U s)).bind (mj_bk X (d + 1) 105 30 [some (.ref 22), l1] []) := (mj_q_aload_n mw_m105 d105_23 rfl (by decide)).trans ((mw_q_getr mw_m105 d105_24 mw_p5_28 mw_c_22 mw_f_22_2).trans (mw_q_callv mw_m105 rfl d105_27 mw_p5_141 mw_m125 rfl rfl (Nat.le_of_ble_eq_true rfl) (Nat.le_of_ble_eq_true rfl) rfl (mw_rcv mw_c_27) rfl rfl))
theorem b105_30 {X : mj_X} {d : Nat} {s : mw_S} {l1 : Option Value}  : mj_exec X (d + 1) 105 30 [some (.ref 22), l1] [] (mw_U s) = (mj_call X d 98 [.ref 22, .int (nI 0)] (mw_U s)).bind (mj_bk X (d + 1) 105 35 [some (.ref 22), l1] []) := (mj_q_aload_n mw_m105 d105_30 rfl (by decide)).trans ((mj_q_iconst mw_m105 d105_31 mw_k_iconst_0).trans (mw_q_callv mw_m105 rfl d105_32 mw_p5_132 mw_m98 rfl rfl (Nat.le_of_ble_eq_true rfl) (Nat.le_of_ble_eq_true rfl) rfl (mw_rcv mw_c_22) rfl rfl))
theorem b105_35 {X : mj_X} {d : Nat} {s : mw_S} {l1 : Option Value} {xs0 : Int32}  : mj_exec X (d + 1) 105 35 [some (.ref 22), l1] [.int xs0] (mw_U s) = (mj_call X d 126 [.ref 27] (mw_U s)).bind (mj_bk X (d + 1) 105 43 [some (.ref 22), some (.int xs0)] []) := (mj_q_istore_n mw_m105 d105_35 (Nat.le_of_ble_eq_true rfl) rfl rfl).trans ((mj_q_aload_n mw_m105 d105_36 rfl (by decide)).trans ((mw_q_getr mw_m105 d105_37 mw_p5_28 mw_c_22 mw_f_22_2).trans (mw_q_callv mw_m105 rfl d105_40 mw_p5_144 mw_m126 rfl rfl (Nat.le_of_ble_eq_true rfl) (Nat.le_of_ble_eq_true rfl) rfl (mw_rcv mw_c_27) rfl rfl)))
theorem b105_43 {X : mj_X} {d : Nat} {s : mw_S} {x1 : Int32}  : mj_exec X d 105 43 [some (.ref 22), some (.int x1)] [] (mw_U s) = if mj_rfit (some .boolean) x1 = true then some (.inl (some (.int x1)), mw_U s) else none := (mj_q_iload_n mw_m105 d105_43 rfl).trans (mw_h_iret mw_m105 d105_44 rfl)
/-- WivesQuarrels$Reader.take -/
theorem d106_0 : decode prog_8_method_8_code 0 = .ok (.aload_n 0, 1) := by decide +kernel
theorem d106_1 : decode prog_8_method_8_code 1 = .ok (.getfield 12, 3) := by decide +kernel
theorem d106_4 : decode prog_8_method_8_code 4 = .ok (.invokevirtual 47, 3) := by decide +kernel
theorem d106_7 : decode prog_8_method_8_code 7 = .ok (.iload_n 1, 1) := by decide +kernel
theorem d106_8 : decode prog_8_method_8_code 8 = .ok (.if_icmp .eq 9, 3) := by decide +kernel
theorem d106_11 : decode prog_8_method_8_code 11 = .ok (.aload_n 0, 1) := by decide +kernel
theorem d106_12 : decode prog_8_method_8_code 12 = .ok (.iconst 1, 1) := by decide +kernel
theorem d106_13 : decode prog_8_method_8_code 13 = .ok (.invokevirtual 62, 3) := by decide +kernel
theorem d106_16 : decode prog_8_method_8_code 16 = .ok (.ireturn, 1) := by decide +kernel
theorem d106_17 : decode prog_8_method_8_code 17 = .ok (.aload_n 0, 1) := by decide +kernel
theorem d106_18 : decode prog_8_method_8_code 18 = .ok (.getfield 12, 3) := by decide +kernel
theorem d106_21 : decode prog_8_method_8_code 21 = .ok (.invokevirtual 65, 3) := by decide +kernel
theorem d106_24 : decode prog_8_method_8_code 24 = .ok (.iconst 1, 1) := by decide +kernel
theorem d106_25 : decode prog_8_method_8_code 25 = .ok (.ireturn, 1) := by decide +kernel
theorem b106 {X : mj_X} {d : Nat} {w : mj_W} {x0 : Nat} {x1 : Int32} : mj_call X d 106 [.ref x0, .int x1] w = mj_exec X d 106 0 [some (.ref x0), some (.int x1)] [] w := mw_ent mw_m106 (Nat.le_of_ble_eq_true rfl) rfl
theorem b106_0 {X : mj_X} {d : Nat} {s : mw_S} {x1 : Int32}  : mj_exec X (d + 1) 106 0 [some (.ref 22), some (.int x1)] [] (mw_U s) = (mj_call X d 135 [.ref 23] (mw_U s)).bind (mj_bk X (d + 1) 106 7 [some (.ref 22), some (.int x1)] []) := (mj_q_aload_n mw_m106 d106_0 rfl (by decide)).trans ((mw_q_getr mw_m106 d106_1 mw_p5_12 mw_c_22 mw_f_22_0).trans (mw_q_callv mw_m106 rfl d106_4 mw_p5_47 mw_m135 rfl rfl (Nat.le_of_ble_eq_true rfl) (Nat.le_of_ble_eq_true rfl) rfl (mw_rcv mw_c_23) rfl rfl))
theorem b106_7 {X : mj_X} {d : Nat} {s : mw_S} {x1 : Int32} {xs0 : Int32}  : mj_exec X d 106 7 [some (.ref 22), some (.int x1)] [.int xs0] (mw_U s) = if xs0 = x1 then mj_exec X d 106 17 [some (.ref 22), some (.int x1)] [] (mw_U s) else mj_exec X d 106 11 [some (.ref 22), some (.int x1)] [] (mw_U s) := (mj_q_iload_n mw_m106 d106_7 rfl).trans (mj_q_icmp_eq mw_m106 d106_8 rfl)
theorem b106_11 {X : mj_X} {d : Nat} {s : mw_S} {x1 : Int32}  : mj_exec X (d + 1) 106 11 [some (.ref 22), some (.int x1)] [] (mw_U s) = (mj_call X d 92 [.ref 22, .int (nI 1)] (mw_U s)).bind (mj_bk X (d + 1) 106 16 [some (.ref 22), some (.int x1)] []) := (mj_q_aload_n mw_m106 d106_11 rfl (by decide)).trans ((mj_q_iconst mw_m106 d106_12 mw_k_iconst_1).trans (mw_q_callv mw_m106 rfl d106_13 mw_p5_62 mw_m92 rfl rfl (Nat.le_of_ble_eq_true rfl) (Nat.le_of_ble_eq_true rfl) rfl (mw_rcv mw_c_22) rfl rfl))
theorem b106_16 {X : mj_X} {d : Nat} {s : mw_S} {x1 : Int32} {xs0 : Int32}  : mj_exec X d 106 16 [some (.ref 22), some (.int x1)] [.int xs0] (mw_U s) = if mj_rfit (some .boolean) xs0 = true then some (.inl (some (.int xs0)), mw_U s) else none := mw_h_iret mw_m106 d106_16 rfl
theorem b106_17 {X : mj_X} {d : Nat} {s : mw_S} {x1 : Int32}  : mj_exec X (d + 1) 106 17 [some (.ref 22), some (.int x1)] [] (mw_U s) = (mj_call X d 131 [.ref 23] (mw_U s)).bind (mj_bk X (d + 1) 106 24 [some (.ref 22), some (.int x1)] []) := (mj_q_aload_n mw_m106 d106_17 rfl (by decide)).trans ((mw_q_getr mw_m106 d106_18 mw_p5_12 mw_c_22 mw_f_22_0).trans (mw_q_callv mw_m106 rfl d106_21 mw_p5_65 mw_m131 rfl rfl (Nat.le_of_ble_eq_true rfl) (Nat.le_of_ble_eq_true rfl) rfl (mw_rcv mw_c_23) rfl rfl))
theorem b106_24 {X : mj_X} {d : Nat} {s : mw_S} {x1 : Int32}  : mj_exec X d 106 24 [some (.ref 22), some (.int x1)] [] (mw_U s) = some (.inl (some (.int (nI 1))), mw_U s) := (mj_q_iconst mw_m106 d106_24 mw_k_iconst_1).trans (mj_q_iret mw_m106 d106_25 (by decide))
/-- WivesQuarrels$Reader.place -/
theorem d107_0 : decode prog_8_method_5_code 0 = .ok (.aload_n 0, 1) := by decide +kernel
theorem d107_1 : decode prog_8_method_5_code 1 = .ok (.getfield 36, 3) := by decide +kernel
theorem d107_4 : decode prog_8_method_5_code 4 = .ok (.ireturn, 1) := by decide +kernel
theorem b107 {X : mj_X} {d : Nat} {w : mj_W} {x0 : Nat} : mj_call X d 107 [.ref x0] w = mj_exec X d 107 0 [some (.ref x0)] [] w := mw_ent mw_m107 (Nat.le_of_ble_eq_true rfl) rfl
theorem b107_0 {X : mj_X} {d : Nat} {s : mw_S}   : mj_exec X d 107 0 [some (.ref 22)] [] (mw_U s) = some (.inl (some (.int (s.1 22 4))), mw_U s) := (mj_q_aload_n mw_m107 d107_0 rfl (by decide)).trans ((mw_q_geti mw_m107 d107_1 mw_p5_36 mw_c_22 mw_f_22_4).trans (mj_q_iret mw_m107 d107_4 rfl))
/-- WivesQuarrels$Reader.found -/
theorem d108_0 : decode prog_8_method_4_code 0 = .ok (.aload_n 0, 1) := by decide +kernel
theorem d108_1 : decode prog_8_method_4_code 1 = .ok (.getfield 32, 3) := by decide +kernel
theorem d108_4 : decode prog_8_method_4_code 4 = .ok (.ireturn, 1) := by decide +kernel
theorem b108 {X : mj_X} {d : Nat} {w : mj_W} {x0 : Nat} : mj_call X d 108 [.ref x0] w = mj_exec X d 108 0 [some (.ref x0)] [] w := mw_ent mw_m108 (Nat.le_of_ble_eq_true rfl) rfl
theorem b108_0 {X : mj_X} {d : Nat} {s : mw_S}   : mj_exec X d 108 0 [some (.ref 22)] [] (mw_U s) = some (.inl (some (.int (s.1 22 3))), mw_U s) := (mj_q_aload_n mw_m108 d108_0 rfl (by decide)).trans ((mw_q_geti mw_m108 d108_1 mw_p5_32 mw_c_22 mw_f_22_3).trans (mj_q_iret mw_m108 d108_4 rfl))
/-- WivesQuarrels$Reader.folk -/
theorem d109_0 : decode prog_8_method_2_code 0 = .ok (.aload_n 0, 1) := by decide +kernel
theorem d109_1 : decode prog_8_method_2_code 1 = .ok (.getfield 21, 3) := by decide +kernel
theorem d109_4 : decode prog_8_method_2_code 4 = .ok (.areturn, 1) := by decide +kernel
theorem b109 {X : mj_X} {d : Nat} {w : mj_W} {x0 : Nat} : mj_call X d 109 [.ref x0] w = mj_exec X d 109 0 [some (.ref x0)] [] w := mw_ent mw_m109 (Nat.le_of_ble_eq_true rfl) rfl
theorem b109_0 {X : mj_X} {d : Nat} {s : mw_S}   : mj_exec X d 109 0 [some (.ref 22)] [] (mw_U s) = some (.inl (some (.ref 25)), mw_U s) := (mj_q_aload_n mw_m109 d109_0 rfl (by decide)).trans ((mw_q_getr mw_m109 d109_1 mw_p5_21 mw_c_22 mw_f_22_1).trans (mj_q_aret mw_m109 d109_4 rfl (by decide)))
/-- WivesQuarrels$Reader.rules -/
theorem d110_0 : decode prog_8_method_3_code 0 = .ok (.aload_n 0, 1) := by decide +kernel
theorem d110_1 : decode prog_8_method_3_code 1 = .ok (.getfield 28, 3) := by decide +kernel
theorem d110_4 : decode prog_8_method_3_code 4 = .ok (.areturn, 1) := by decide +kernel
theorem b110 {X : mj_X} {d : Nat} {w : mj_W} {x0 : Nat} : mj_call X d 110 [.ref x0] w = mj_exec X d 110 0 [some (.ref x0)] [] w := mw_ent mw_m110 (Nat.le_of_ble_eq_true rfl) rfl
theorem b110_0 {X : mj_X} {d : Nat} {s : mw_S}   : mj_exec X d 110 0 [some (.ref 22)] [] (mw_U s) = some (.inl (some (.ref 27)), mw_U s) := (mj_q_aload_n mw_m110 d110_0 rfl (by decide)).trans ((mw_q_getr mw_m110 d110_1 mw_p5_28 mw_c_22 mw_f_22_2).trans (mj_q_aret mw_m110 d110_4 rfl (by decide)))
/-- WivesQuarrels$Tokens.open -/
theorem d130_0 : decode prog_10_method_2_code 0 = .ok (.aload_n 0, 1) := by decide +kernel
theorem d130_1 : decode prog_10_method_2_code 1 = .ok (.iconst 0, 1) := by decide +kernel
theorem d130_2 : decode prog_10_method_2_code 2 = .ok (.iload_n 2, 1) := by decide +kernel
theorem d130_3 : decode prog_10_method_2_code 3 = .ok (.aload_n 1, 1) := by decide +kernel
theorem d130_4 : decode prog_10_method_2_code 4 = .ok (.arraylength, 1) := by decide +kernel
theorem d130_5 : decode prog_10_method_2_code 5 = .ok (.sipush 700, 3) := by decide +kernel
theorem d130_8 : decode prog_10_method_2_code 8 = .ok (.invokestatic 31, 3) := by decide +kernel
theorem d130_11 : decode prog_10_method_2_code 11 = .ok (.invokestatic 31, 3) := by decide +kernel
theorem d130_14 : decode prog_10_method_2_code 14 = .ok (.invokestatic 37, 3) := by decide +kernel
theorem d130_17 : decode prog_10_method_2_code 17 = .ok (.putfield 15, 3) := by decide +kernel
theorem d130_20 : decode prog_10_method_2_code 20 = .ok (.aload_n 1, 1) := by decide +kernel
theorem d130_21 : decode prog_10_method_2_code 21 = .ok (.iconst 0, 1) := by decide +kernel
theorem d130_22 : decode prog_10_method_2_code 22 = .ok (.aload_n 0, 1) := by decide +kernel
theorem d130_23 : decode prog_10_method_2_code 23 = .ok (.getfield 9, 3) := by decide +kernel
theorem d130_26 : decode prog_10_method_2_code 26 = .ok (.iconst 0, 1) := by decide +kernel
theorem d130_27 : decode prog_10_method_2_code 27 = .ok (.aload_n 0, 1) := by decide +kernel
theorem d130_28 : decode prog_10_method_2_code 28 = .ok (.getfield 15, 3) := by decide +kernel
theorem d130_31 : decode prog_10_method_2_code 31 = .ok (.invokestatic 40, 3) := by decide +kernel
theorem d130_43 : decode prog_10_method_2_code 43 = .ok (.return_, 1) := by decide +kernel
theorem b130 {X : mj_X} {d : Nat} {w : mj_W} {x0 : Nat} {x1 : Nat} {x2 : Int32} : mj_call X d 130 [.ref x0, .ref x1, .int x2] w = mj_exec X d 130 0 [some (.ref x0), some (.ref x1), some (.int x2)] [] w := mw_ent mw_m130 (Nat.le_of_ble_eq_true rfl) rfl
theorem b130_43 {X : mj_X} {d : Nat} {s : mw_S} {k1 : Nat} {n1 : Nat} {x2 : Int32} (h1 : mw_rw k1 = some (.byte, n1)) : mj_exec X d 130 43 [some (.ref 23), some (.ref k1), some (.int x2)] [] (mw_U s) = some (.inl none, mw_U s) := mj_q_vret mw_m130 d130_43 rfl
/-- WivesQuarrels$Tokens.advance -/
theorem d131_0 : decode prog_10_method_9_code 0 = .ok (.aload_n 0, 1) := by decide +kernel
theorem d131_1 : decode prog_10_method_9_code 1 = .ok (.aload_n 0, 1) := by decide +kernel
theorem d131_2 : decode prog_10_method_9_code 2 = .ok (.getfield 22, 3) := by decide +kernel
theorem d131_5 : decode prog_10_method_9_code 5 = .ok (.putfield 19, 3) := by decide +kernel
theorem d131_8 : decode prog_10_method_9_code 8 = .ok (.aload_n 0, 1) := by decide +kernel
theorem d131_9 : decode prog_10_method_9_code 9 = .ok (.getfield 19, 3) := by decide +kernel
theorem d131_12 : decode prog_10_method_9_code 12 = .ok (.aload_n 0, 1) := by decide +kernel
theorem d131_13 : decode prog_10_method_9_code 13 = .ok (.getfield 15, 3) := by decide +kernel
theorem d131_16 : decode prog_10_method_9_code 16 = .ok (.if_icmp .ge 44, 3) := by decide +kernel
theorem d131_19 : decode prog_10_method_9_code 19 = .ok (.aload_n 0, 1) := by decide +kernel
theorem d131_20 : decode prog_10_method_9_code 20 = .ok (.getfield 9, 3) := by decide +kernel
theorem d131_23 : decode prog_10_method_9_code 23 = .ok (.aload_n 0, 1) := by decide +kernel
theorem d131_24 : decode prog_10_method_9_code 24 = .ok (.getfield 19, 3) := by decide +kernel
theorem d131_27 : decode prog_10_method_9_code 27 = .ok (.baload, 1) := by decide +kernel
theorem d131_28 : decode prog_10_method_9_code 28 = .ok (.bipush 32, 2) := by decide +kernel
theorem d131_30 : decode prog_10_method_9_code 30 = .ok (.if_icmp .eq 17, 3) := by decide +kernel
theorem d131_33 : decode prog_10_method_9_code 33 = .ok (.aload_n 0, 1) := by decide +kernel
theorem d131_34 : decode prog_10_method_9_code 34 = .ok (.getfield 9, 3) := by decide +kernel
theorem d131_37 : decode prog_10_method_9_code 37 = .ok (.aload_n 0, 1) := by decide +kernel
theorem d131_38 : decode prog_10_method_9_code 38 = .ok (.getfield 19, 3) := by decide +kernel
theorem d131_41 : decode prog_10_method_9_code 41 = .ok (.baload, 1) := by decide +kernel
theorem d131_42 : decode prog_10_method_9_code 42 = .ok (.bipush 10, 2) := by decide +kernel
theorem d131_44 : decode prog_10_method_9_code 44 = .ok (.if_icmp .ne 16, 3) := by decide +kernel
theorem d131_47 : decode prog_10_method_9_code 47 = .ok (.aload_n 0, 1) := by decide +kernel
theorem d131_48 : decode prog_10_method_9_code 48 = .ok (.dup, 1) := by decide +kernel
theorem d131_49 : decode prog_10_method_9_code 49 = .ok (.getfield 19, 3) := by decide +kernel
theorem d131_52 : decode prog_10_method_9_code 52 = .ok (.iconst 1, 1) := by decide +kernel
theorem d131_53 : decode prog_10_method_9_code 53 = .ok (.iadd, 1) := by decide +kernel
theorem d131_54 : decode prog_10_method_9_code 54 = .ok (.putfield 19, 3) := by decide +kernel
theorem d131_57 : decode prog_10_method_9_code 57 = .ok (.goto (-49), 3) := by decide +kernel
theorem d131_60 : decode prog_10_method_9_code 60 = .ok (.aload_n 0, 1) := by decide +kernel
theorem d131_61 : decode prog_10_method_9_code 61 = .ok (.aload_n 0, 1) := by decide +kernel
theorem d131_62 : decode prog_10_method_9_code 62 = .ok (.getfield 19, 3) := by decide +kernel
theorem d131_65 : decode prog_10_method_9_code 65 = .ok (.putfield 22, 3) := by decide +kernel
theorem d131_68 : decode prog_10_method_9_code 68 = .ok (.aload_n 0, 1) := by decide +kernel
theorem d131_69 : decode prog_10_method_9_code 69 = .ok (.getfield 19, 3) := by decide +kernel
theorem d131_72 : decode prog_10_method_9_code 72 = .ok (.aload_n 0, 1) := by decide +kernel
theorem d131_73 : decode prog_10_method_9_code 73 = .ok (.getfield 15, 3) := by decide +kernel
theorem d131_76 : decode prog_10_method_9_code 76 = .ok (.if_icmp .lt 11, 3) := by decide +kernel
theorem d131_79 : decode prog_10_method_9_code 79 = .ok (.aload_n 0, 1) := by decide +kernel
theorem d131_80 : decode prog_10_method_9_code 80 = .ok (.iconst 0, 1) := by decide +kernel
theorem d131_81 : decode prog_10_method_9_code 81 = .ok (.putfield 25, 3) := by decide +kernel
theorem d131_84 : decode prog_10_method_9_code 84 = .ok (.goto 77, 3) := by decide +kernel
theorem d131_87 : decode prog_10_method_9_code 87 = .ok (.aload_n 0, 1) := by decide +kernel
theorem d131_88 : decode prog_10_method_9_code 88 = .ok (.getfield 9, 3) := by decide +kernel
theorem d131_91 : decode prog_10_method_9_code 91 = .ok (.aload_n 0, 1) := by decide +kernel
theorem d131_92 : decode prog_10_method_9_code 92 = .ok (.getfield 19, 3) := by decide +kernel
theorem d131_95 : decode prog_10_method_9_code 95 = .ok (.baload, 1) := by decide +kernel
theorem d131_96 : decode prog_10_method_9_code 96 = .ok (.bipush 97, 2) := by decide +kernel
theorem d131_98 : decode prog_10_method_9_code 98 = .ok (.if_icmp .lt 24, 3) := by decide +kernel
theorem d131_101 : decode prog_10_method_9_code 101 = .ok (.aload_n 0, 1) := by decide +kernel
theorem d131_102 : decode prog_10_method_9_code 102 = .ok (.getfield 9, 3) := by decide +kernel
theorem d131_105 : decode prog_10_method_9_code 105 = .ok (.aload_n 0, 1) := by decide +kernel
theorem d131_106 : decode prog_10_method_9_code 106 = .ok (.getfield 19, 3) := by decide +kernel
theorem d131_109 : decode prog_10_method_9_code 109 = .ok (.baload, 1) := by decide +kernel
theorem d131_110 : decode prog_10_method_9_code 110 = .ok (.bipush 122, 2) := by decide +kernel
theorem d131_112 : decode prog_10_method_9_code 112 = .ok (.if_icmp .gt 10, 3) := by decide +kernel
theorem d131_115 : decode prog_10_method_9_code 115 = .ok (.aload_n 0, 1) := by decide +kernel
theorem d131_116 : decode prog_10_method_9_code 116 = .ok (.invokevirtual 49, 3) := by decide +kernel
theorem d131_119 : decode prog_10_method_9_code 119 = .ok (.goto 42, 3) := by decide +kernel
theorem d131_122 : decode prog_10_method_9_code 122 = .ok (.aload_n 0, 1) := by decide +kernel
theorem d131_123 : decode prog_10_method_9_code 123 = .ok (.getfield 9, 3) := by decide +kernel
theorem d131_126 : decode prog_10_method_9_code 126 = .ok (.aload_n 0, 1) := by decide +kernel
theorem d131_127 : decode prog_10_method_9_code 127 = .ok (.getfield 19, 3) := by decide +kernel
theorem d131_130 : decode prog_10_method_9_code 130 = .ok (.baload, 1) := by decide +kernel
theorem d131_131 : decode prog_10_method_9_code 131 = .ok (.bipush 48, 2) := by decide +kernel
theorem d131_133 : decode prog_10_method_9_code 133 = .ok (.if_icmp .lt 24, 3) := by decide +kernel
theorem d131_136 : decode prog_10_method_9_code 136 = .ok (.aload_n 0, 1) := by decide +kernel
theorem d131_137 : decode prog_10_method_9_code 137 = .ok (.getfield 9, 3) := by decide +kernel
theorem d131_140 : decode prog_10_method_9_code 140 = .ok (.aload_n 0, 1) := by decide +kernel
theorem d131_141 : decode prog_10_method_9_code 141 = .ok (.getfield 19, 3) := by decide +kernel
theorem d131_144 : decode prog_10_method_9_code 144 = .ok (.baload, 1) := by decide +kernel
theorem d131_145 : decode prog_10_method_9_code 145 = .ok (.bipush 57, 2) := by decide +kernel
theorem d131_147 : decode prog_10_method_9_code 147 = .ok (.if_icmp .gt 10, 3) := by decide +kernel
theorem d131_150 : decode prog_10_method_9_code 150 = .ok (.aload_n 0, 1) := by decide +kernel
theorem d131_151 : decode prog_10_method_9_code 151 = .ok (.invokevirtual 52, 3) := by decide +kernel
theorem d131_154 : decode prog_10_method_9_code 154 = .ok (.goto 7, 3) := by decide +kernel
theorem d131_157 : decode prog_10_method_9_code 157 = .ok (.aload_n 0, 1) := by decide +kernel
theorem d131_158 : decode prog_10_method_9_code 158 = .ok (.invokevirtual 55, 3) := by decide +kernel
theorem d131_161 : decode prog_10_method_9_code 161 = .ok (.return_, 1) := by decide +kernel
theorem b131 {X : mj_X} {d : Nat} {w : mj_W} {x0 : Nat} : mj_call X d 131 [.ref x0] w = mj_exec X d 131 0 [some (.ref x0)] [] w := mw_ent mw_m131 (Nat.le_of_ble_eq_true rfl) rfl
theorem b131_0 {X : mj_X} {d : Nat} {s : mw_S}   : mj_exec X d 131 0 [some (.ref 23)] [] (mw_U s) = mj_exec X d 131 8 [some (.ref 23)] [] (mw_U (mw_p s 23 2 (s.1 23 3))) := (mj_q_aload_n mw_m131 d131_0 rfl (by decide)).trans ((mj_q_aload_n mw_m131 d131_1 rfl (by decide)).trans ((mw_q_geti mw_m131 d131_2 mw_p7_22 mw_c_23 mw_f_23_3).trans (mw_q_puti mw_m131 d131_5 mw_p7_19 mw_c_23 mw_f_23_2 (by decide) rfl (.inl rfl))))
theorem b131_8 {X : mj_X} {d : Nat} {s : mw_S}   : mj_exec X d 131 8 [some (.ref 23)] [] (mw_U s) = if (s.1 23 1) ≤ (s.1 23 2) then mj_exec X d 131 60 [some (.ref 23)] [] (mw_U s) else mj_exec X d 131 19 [some (.ref 23)] [] (mw_U s) := (mj_q_aload_n mw_m131 d131_8 rfl (by decide)).trans ((mw_q_geti mw_m131 d131_9 mw_p7_19 mw_c_23 mw_f_23_2).trans ((mj_q_aload_n mw_m131 d131_12 rfl (by decide)).trans ((mw_q_geti mw_m131 d131_13 mw_p7_15 mw_c_23 mw_f_23_1).trans (mj_q_icmp_ge mw_m131 d131_16 rfl))))
theorem b131_19 {X : mj_X} {d : Nat} {s : mw_S}   : mj_exec X d 131 19 [some (.ref 23)] [] (mw_U s) = if mw_in 700 (s.1 23 2) = true then if (s.1 24 ((s.1 23 2)).toNatClampNeg) = (nI 32) then mj_exec X d 131 47 [some (.ref 23)] [] (mw_U s) else mj_exec X d 131 33 [some (.ref 23)] [] (mw_U s) else none := (mj_q_aload_n mw_m131 d131_19 rfl (by decide)).trans ((mw_q_getr mw_m131 d131_20 mw_p7_9 mw_c_23 mw_f_23_0).trans ((mj_q_aload_n mw_m131 d131_23 rfl (by decide)).trans ((mw_q_geti mw_m131 d131_24 mw_p7_19 mw_c_23 mw_f_23_2).trans ((mw_h_bald mw_m131 d131_27 mw_r_24).trans (mw_g ((mj_q_bipush mw_m131 d131_28 mw_k_bipush_32).trans (mj_q_icmp_eq mw_m131 d131_30 rfl)))))))
theorem b131_33 {X : mj_X} {d : Nat} {s : mw_S}   : mj_exec X d 131 33 [some (.ref 23)] [] (mw_U s) = if mw_in 700 (s.1 23 2) = true then if (s.1 24 ((s.1 23 2)).toNatClampNeg) = (nI 10) then mj_exec X d 131 47 [some (.ref 23)] [] (mw_U s) else mj_exec X d 131 60 [some (.ref 23)] [] (mw_U s) else none := (mj_q_aload_n mw_m131 d131_33 rfl (by decide)).trans ((mw_q_getr mw_m131 d131_34 mw_p7_9 mw_c_23 mw_f_23_0).trans ((mj_q_aload_n mw_m131 d131_37 rfl (by decide)).trans ((mw_q_geti mw_m131 d131_38 mw_p7_19 mw_c_23 mw_f_23_2).trans ((mw_h_bald mw_m131 d131_41 mw_r_24).trans (mw_g ((mj_q_bipush mw_m131 d131_42 mw_k_bipush_10).trans (mj_q_icmp_ne mw_m131 d131_44 rfl)))))))
theorem b131_47 {X : mj_X} {d : Nat} {s : mw_S}   : mj_exec X d 131 47 [some (.ref 23)] [] (mw_U s) = mj_exec X d 131 8 [some (.ref 23)] [] (mw_U (mw_p s 23 2 ((s.1 23 2) + (nI 1)))) := (mj_q_aload_n mw_m131 d131_47 rfl (by decide)).trans ((mj_q_dup mw_m131 d131_48 rfl).trans ((mw_q_geti mw_m131 d131_49 mw_p7_19 mw_c_23 mw_f_23_2).trans ((mj_q_iconst mw_m131 d131_52 mw_k_iconst_1).trans ((mj_q_iadd mw_m131 d131_53).trans ((mw_q_puti mw_m131 d131_54 mw_p7_19 mw_c_23 mw_f_23_2 (by decide) rfl (.inl rfl)).trans (mj_q_goto mw_m131 d131_57 rfl))))))
theorem b131_60 {X : mj_X} {d : Nat} {s : mw_S}   : mj_exec X d 131 60 [some (.ref 23)] [] (mw_U s) = if ((mw_p s 23 3 (s.1 23 2)).1 23 2) < ((mw_p s 23 3 (s.1 23 2)).1 23 1) then mj_exec X d 131 87 [some (.ref 23)] [] (mw_U (mw_p s 23 3 (s.1 23 2))) else mj_exec X d 131 79 [some (.ref 23)] [] (mw_U (mw_p s 23 3 (s.1 23 2))) := (mj_q_aload_n mw_m131 d131_60 rfl (by decide)).trans ((mj_q_aload_n mw_m131 d131_61 rfl (by decide)).trans ((mw_q_geti mw_m131 d131_62 mw_p7_19 mw_c_23 mw_f_23_2).trans ((mw_q_puti mw_m131 d131_65 mw_p7_22 mw_c_23 mw_f_23_3 (by decide) rfl (.inl rfl)).trans ((mj_q_aload_n mw_m131 d131_68 rfl (by decide)).trans ((mw_q_geti mw_m131 d131_69 mw_p7_19 mw_c_23 mw_f_23_2).trans ((mj_q_aload_n mw_m131 d131_72 rfl (by decide)).trans ((mw_q_geti mw_m131 d131_73 mw_p7_15 mw_c_23 mw_f_23_1).trans (mj_q_icmp_lt mw_m131 d131_76 rfl))))))))
theorem b131_79 {X : mj_X} {d : Nat} {s : mw_S}   : mj_exec X d 131 79 [some (.ref 23)] [] (mw_U s) = mj_exec X d 131 161 [some (.ref 23)] [] (mw_U (mw_p s 23 4 (nI 0))) := (mj_q_aload_n mw_m131 d131_79 rfl (by decide)).trans ((mj_q_iconst mw_m131 d131_80 mw_k_iconst_0).trans ((mw_q_puti mw_m131 d131_81 mw_p7_25 mw_c_23 mw_f_23_4 (by decide) rfl (.inl rfl)).trans (mj_q_goto mw_m131 d131_84 rfl)))
theorem b131_87 {X : mj_X} {d : Nat} {s : mw_S}   : mj_exec X d 131 87 [some (.ref 23)] [] (mw_U s) = if mw_in 700 (s.1 23 2) = true then if (s.1 24 ((s.1 23 2)).toNatClampNeg) < (nI 97) then mj_exec X d 131 122 [some (.ref 23)] [] (mw_U s) else mj_exec X d 131 101 [some (.ref 23)] [] (mw_U s) else none := (mj_q_aload_n mw_m131 d131_87 rfl (by decide)).trans ((mw_q_getr mw_m131 d131_88 mw_p7_9 mw_c_23 mw_f_23_0).trans ((mj_q_aload_n mw_m131 d131_91 rfl (by decide)).trans ((mw_q_geti mw_m131 d131_92 mw_p7_19 mw_c_23 mw_f_23_2).trans ((mw_h_bald mw_m131 d131_95 mw_r_24).trans (mw_g ((mj_q_bipush mw_m131 d131_96 mw_k_bipush_97).trans (mj_q_icmp_lt mw_m131 d131_98 rfl)))))))
theorem b131_101 {X : mj_X} {d : Nat} {s : mw_S}   : mj_exec X d 131 101 [some (.ref 23)] [] (mw_U s) = if mw_in 700 (s.1 23 2) = true then if (nI 122) < (s.1 24 ((s.1 23 2)).toNatClampNeg) then mj_exec X d 131 122 [some (.ref 23)] [] (mw_U s) else mj_exec X d 131 115 [some (.ref 23)] [] (mw_U s) else none := (mj_q_aload_n mw_m131 d131_101 rfl (by decide)).trans ((mw_q_getr mw_m131 d131_102 mw_p7_9 mw_c_23 mw_f_23_0).trans ((mj_q_aload_n mw_m131 d131_105 rfl (by decide)).trans ((mw_q_geti mw_m131 d131_106 mw_p7_19 mw_c_23 mw_f_23_2).trans ((mw_h_bald mw_m131 d131_109 mw_r_24).trans (mw_g ((mj_q_bipush mw_m131 d131_110 mw_k_bipush_122).trans (mj_q_icmp_gt mw_m131 d131_112 rfl)))))))
theorem b131_115 {X : mj_X} {d : Nat} {s : mw_S}   : mj_exec X (d + 1) 131 115 [some (.ref 23)] [] (mw_U s) = (mj_call X d 132 [.ref 23] (mw_U s)).bind (mj_bk X (d + 1) 131 119 [some (.ref 23)] []) := (mj_q_aload_n mw_m131 d131_115 rfl (by decide)).trans (mw_q_callv mw_m131 rfl d131_116 mw_p7_49 mw_m132 rfl rfl (Nat.le_of_ble_eq_true rfl) (Nat.le_of_ble_eq_true rfl) rfl (mw_rcv mw_c_23) rfl rfl)
theorem b131_119 {X : mj_X} {d : Nat} {s : mw_S}   : mj_exec X d 131 119 [some (.ref 23)] [] (mw_U s) = mj_exec X d 131 161 [some (.ref 23)] [] (mw_U s) := mj_q_goto mw_m131 d131_119 rfl
theorem b131_122 {X : mj_X} {d : Nat} {s : mw_S}   : mj_exec X d 131 122 [some (.ref 23)] [] (mw_U s) = if mw_in 700 (s.1 23 2) = true then if (s.1 24 ((s.1 23 2)).toNatClampNeg) < (nI 48) then mj_exec X d 131 157 [some (.ref 23)] [] (mw_U s) else mj_exec X d 131 136 [some (.ref 23)] [] (mw_U s) else none := (mj_q_aload_n mw_m131 d131_122 rfl (by decide)).trans ((mw_q_getr mw_m131 d131_123 mw_p7_9 mw_c_23 mw_f_23_0).trans ((mj_q_aload_n mw_m131 d131_126 rfl (by decide)).trans ((mw_q_geti mw_m131 d131_127 mw_p7_19 mw_c_23 mw_f_23_2).trans ((mw_h_bald mw_m131 d131_130 mw_r_24).trans (mw_g ((mj_q_bipush mw_m131 d131_131 mw_k_bipush_48).trans (mj_q_icmp_lt mw_m131 d131_133 rfl)))))))
theorem b131_136 {X : mj_X} {d : Nat} {s : mw_S}   : mj_exec X d 131 136 [some (.ref 23)] [] (mw_U s) = if mw_in 700 (s.1 23 2) = true then if (nI 57) < (s.1 24 ((s.1 23 2)).toNatClampNeg) then mj_exec X d 131 157 [some (.ref 23)] [] (mw_U s) else mj_exec X d 131 150 [some (.ref 23)] [] (mw_U s) else none := (mj_q_aload_n mw_m131 d131_136 rfl (by decide)).trans ((mw_q_getr mw_m131 d131_137 mw_p7_9 mw_c_23 mw_f_23_0).trans ((mj_q_aload_n mw_m131 d131_140 rfl (by decide)).trans ((mw_q_geti mw_m131 d131_141 mw_p7_19 mw_c_23 mw_f_23_2).trans ((mw_h_bald mw_m131 d131_144 mw_r_24).trans (mw_g ((mj_q_bipush mw_m131 d131_145 mw_k_bipush_57).trans (mj_q_icmp_gt mw_m131 d131_147 rfl)))))))
theorem b131_150 {X : mj_X} {d : Nat} {s : mw_S}   : mj_exec X (d + 1) 131 150 [some (.ref 23)] [] (mw_U s) = (mj_call X d 133 [.ref 23] (mw_U s)).bind (mj_bk X (d + 1) 131 154 [some (.ref 23)] []) := (mj_q_aload_n mw_m131 d131_150 rfl (by decide)).trans (mw_q_callv mw_m131 rfl d131_151 mw_p7_52 mw_m133 rfl rfl (Nat.le_of_ble_eq_true rfl) (Nat.le_of_ble_eq_true rfl) rfl (mw_rcv mw_c_23) rfl rfl)
theorem b131_154 {X : mj_X} {d : Nat} {s : mw_S}   : mj_exec X d 131 154 [some (.ref 23)] [] (mw_U s) = mj_exec X d 131 161 [some (.ref 23)] [] (mw_U s) := mj_q_goto mw_m131 d131_154 rfl
theorem b131_157 {X : mj_X} {d : Nat} {s : mw_S}   : mj_exec X (d + 1) 131 157 [some (.ref 23)] [] (mw_U s) = (mj_call X d 134 [.ref 23] (mw_U s)).bind (mj_bk X (d + 1) 131 161 [some (.ref 23)] []) := (mj_q_aload_n mw_m131 d131_157 rfl (by decide)).trans (mw_q_callv mw_m131 rfl d131_158 mw_p7_55 mw_m134 rfl rfl (Nat.le_of_ble_eq_true rfl) (Nat.le_of_ble_eq_true rfl) rfl (mw_rcv mw_c_23) rfl rfl)
theorem b131_161 {X : mj_X} {d : Nat} {s : mw_S}   : mj_exec X d 131 161 [some (.ref 23)] [] (mw_U s) = some (.inl none, mw_U s) := mj_q_vret mw_m131 d131_161 rfl
/-- WivesQuarrels$Tokens.readWord -/
theorem d132_0 : decode prog_10_method_12_code 0 = .ok (.aload_n 0, 1) := by decide +kernel
theorem d132_1 : decode prog_10_method_12_code 1 = .ok (.getfield 22, 3) := by decide +kernel
theorem d132_4 : decode prog_10_method_12_code 4 = .ok (.aload_n 0, 1) := by decide +kernel
theorem d132_5 : decode prog_10_method_12_code 5 = .ok (.getfield 15, 3) := by decide +kernel
theorem d132_8 : decode prog_10_method_12_code 8 = .ok (.if_icmp .ge 44, 3) := by decide +kernel
theorem d132_11 : decode prog_10_method_12_code 11 = .ok (.aload_n 0, 1) := by decide +kernel
theorem d132_12 : decode prog_10_method_12_code 12 = .ok (.getfield 9, 3) := by decide +kernel
theorem d132_15 : decode prog_10_method_12_code 15 = .ok (.aload_n 0, 1) := by decide +kernel
theorem d132_16 : decode prog_10_method_12_code 16 = .ok (.getfield 22, 3) := by decide +kernel
theorem d132_19 : decode prog_10_method_12_code 19 = .ok (.baload, 1) := by decide +kernel
theorem d132_20 : decode prog_10_method_12_code 20 = .ok (.bipush 97, 2) := by decide +kernel
theorem d132_22 : decode prog_10_method_12_code 22 = .ok (.if_icmp .lt 30, 3) := by decide +kernel
theorem d132_25 : decode prog_10_method_12_code 25 = .ok (.aload_n 0, 1) := by decide +kernel
theorem d132_26 : decode prog_10_method_12_code 26 = .ok (.getfield 9, 3) := by decide +kernel
theorem d132_29 : decode prog_10_method_12_code 29 = .ok (.aload_n 0, 1) := by decide +kernel
theorem d132_30 : decode prog_10_method_12_code 30 = .ok (.getfield 22, 3) := by decide +kernel
theorem d132_33 : decode prog_10_method_12_code 33 = .ok (.baload, 1) := by decide +kernel
theorem d132_34 : decode prog_10_method_12_code 34 = .ok (.bipush 122, 2) := by decide +kernel
theorem d132_36 : decode prog_10_method_12_code 36 = .ok (.if_icmp .gt 16, 3) := by decide +kernel
theorem d132_39 : decode prog_10_method_12_code 39 = .ok (.aload_n 0, 1) := by decide +kernel
theorem d132_40 : decode prog_10_method_12_code 40 = .ok (.dup, 1) := by decide +kernel
theorem d132_41 : decode prog_10_method_12_code 41 = .ok (.getfield 22, 3) := by decide +kernel
theorem d132_44 : decode prog_10_method_12_code 44 = .ok (.iconst 1, 1) := by decide +kernel
theorem d132_45 : decode prog_10_method_12_code 45 = .ok (.iadd, 1) := by decide +kernel
theorem d132_46 : decode prog_10_method_12_code 46 = .ok (.putfield 22, 3) := by decide +kernel
theorem d132_49 : decode prog_10_method_12_code 49 = .ok (.goto (-49), 3) := by decide +kernel
theorem d132_52 : decode prog_10_method_12_code 52 = .ok (.aload_n 0, 1) := by decide +kernel
theorem d132_53 : decode prog_10_method_12_code 53 = .ok (.sipush 200, 3) := by decide +kernel
theorem d132_56 : decode prog_10_method_12_code 56 = .ok (.putfield 25, 3) := by decide +kernel
theorem d132_59 : decode prog_10_method_12_code 59 = .ok (.iconst 0, 1) := by decide +kernel
theorem d132_60 : decode prog_10_method_12_code 60 = .ok (.istore_n 1, 1) := by decide +kernel
theorem d132_61 : decode prog_10_method_12_code 61 = .ok (.iconst 0, 1) := by decide +kernel
theorem d132_62 : decode prog_10_method_12_code 62 = .ok (.istore_n 2, 1) := by decide +kernel
theorem d132_63 : decode prog_10_method_12_code 63 = .ok (.iload_n 2, 1) := by decide +kernel
theorem d132_64 : decode prog_10_method_12_code 64 = .ok (.ldc 66, 2) := by decide +kernel
theorem d132_66 : decode prog_10_method_12_code 66 = .ok (.invokevirtual 68, 3) := by decide +kernel
theorem d132_69 : decode prog_10_method_12_code 69 = .ok (.if_icmp .ge 91, 3) := by decide +kernel
theorem d132_72 : decode prog_10_method_12_code 72 = .ok (.ldc 66, 2) := by decide +kernel
theorem d132_74 : decode prog_10_method_12_code 74 = .ok (.iload_n 2, 1) := by decide +kernel
theorem d132_75 : decode prog_10_method_12_code 75 = .ok (.invokevirtual 71, 3) := by decide +kernel
theorem d132_78 : decode prog_10_method_12_code 78 = .ok (.istore_n 3, 1) := by decide +kernel
theorem d132_79 : decode prog_10_method_12_code 79 = .ok (.iload_n 3, 1) := by decide +kernel
theorem d132_80 : decode prog_10_method_12_code 80 = .ok (.bipush 32, 2) := by decide +kernel
theorem d132_82 : decode prog_10_method_12_code 82 = .ok (.if_icmp .ne 32, 3) := by decide +kernel
theorem d132_85 : decode prog_10_method_12_code 85 = .ok (.iload_n 1, 1) := by decide +kernel
theorem d132_86 : decode prog_10_method_12_code 86 = .ok (.aload_n 0, 1) := by decide +kernel
theorem d132_87 : decode prog_10_method_12_code 87 = .ok (.getfield 22, 3) := by decide +kernel
theorem d132_90 : decode prog_10_method_12_code 90 = .ok (.aload_n 0, 1) := by decide +kernel
theorem d132_91 : decode prog_10_method_12_code 91 = .ok (.getfield 19, 3) := by decide +kernel
theorem d132_94 : decode prog_10_method_12_code 94 = .ok (.isub, 1) := by decide +kernel
theorem d132_95 : decode prog_10_method_12_code 95 = .ok (.if_icmp .ne 4, 3) := by decide +kernel
theorem d132_98 : decode prog_10_method_12_code 98 = .ok (.return_, 1) := by decide +kernel
theorem d132_99 : decode prog_10_method_12_code 99 = .ok (.aload_n 0, 1) := by decide +kernel
theorem d132_100 : decode prog_10_method_12_code 100 = .ok (.dup, 1) := by decide +kernel
theorem d132_101 : decode prog_10_method_12_code 101 = .ok (.getfield 25, 3) := by decide +kernel
theorem d132_104 : decode prog_10_method_12_code 104 = .ok (.iconst 1, 1) := by decide +kernel
theorem d132_105 : decode prog_10_method_12_code 105 = .ok (.iadd, 1) := by decide +kernel
theorem d132_106 : decode prog_10_method_12_code 106 = .ok (.putfield 25, 3) := by decide +kernel
theorem d132_109 : decode prog_10_method_12_code 109 = .ok (.iconst 0, 1) := by decide +kernel
theorem d132_110 : decode prog_10_method_12_code 110 = .ok (.istore_n 1, 1) := by decide +kernel
theorem d132_111 : decode prog_10_method_12_code 111 = .ok (.goto 43, 3) := by decide +kernel
theorem d132_114 : decode prog_10_method_12_code 114 = .ok (.iload_n 1, 1) := by decide +kernel
theorem d132_115 : decode prog_10_method_12_code 115 = .ok (.ifCond .lt 37, 3) := by decide +kernel
theorem d132_118 : decode prog_10_method_12_code 118 = .ok (.aload_n 0, 1) := by decide +kernel
theorem d132_119 : decode prog_10_method_12_code 119 = .ok (.getfield 19, 3) := by decide +kernel
theorem d132_122 : decode prog_10_method_12_code 122 = .ok (.iload_n 1, 1) := by decide +kernel
theorem d132_123 : decode prog_10_method_12_code 123 = .ok (.iadd, 1) := by decide +kernel
theorem d132_124 : decode prog_10_method_12_code 124 = .ok (.aload_n 0, 1) := by decide +kernel
theorem d132_125 : decode prog_10_method_12_code 125 = .ok (.getfield 22, 3) := by decide +kernel
theorem d132_128 : decode prog_10_method_12_code 128 = .ok (.if_icmp .ge 24, 3) := by decide +kernel
theorem d132_131 : decode prog_10_method_12_code 131 = .ok (.aload_n 0, 1) := by decide +kernel
theorem d132_132 : decode prog_10_method_12_code 132 = .ok (.getfield 9, 3) := by decide +kernel
theorem d132_135 : decode prog_10_method_12_code 135 = .ok (.aload_n 0, 1) := by decide +kernel
theorem d132_136 : decode prog_10_method_12_code 136 = .ok (.getfield 19, 3) := by decide +kernel
theorem d132_139 : decode prog_10_method_12_code 139 = .ok (.iload_n 1, 1) := by decide +kernel
theorem d132_140 : decode prog_10_method_12_code 140 = .ok (.iadd, 1) := by decide +kernel
theorem d132_141 : decode prog_10_method_12_code 141 = .ok (.baload, 1) := by decide +kernel
theorem d132_142 : decode prog_10_method_12_code 142 = .ok (.iload_n 3, 1) := by decide +kernel
theorem d132_143 : decode prog_10_method_12_code 143 = .ok (.if_icmp .ne 9, 3) := by decide +kernel
theorem d132_146 : decode prog_10_method_12_code 146 = .ok (.iinc 1 1, 3) := by decide +kernel
theorem d132_149 : decode prog_10_method_12_code 149 = .ok (.goto 5, 3) := by decide +kernel
theorem d132_152 : decode prog_10_method_12_code 152 = .ok (.iconst (-1), 1) := by decide +kernel
theorem d132_153 : decode prog_10_method_12_code 153 = .ok (.istore_n 1, 1) := by decide +kernel
theorem d132_154 : decode prog_10_method_12_code 154 = .ok (.iinc 2 1, 3) := by decide +kernel
theorem d132_157 : decode prog_10_method_12_code 157 = .ok (.goto (-94), 3) := by decide +kernel
theorem d132_160 : decode prog_10_method_12_code 160 = .ok (.return_, 1) := by decide +kernel
theorem b132 {X : mj_X} {d : Nat} {w : mj_W} {x0 : Nat} : mj_call X d 132 [.ref x0] w = mj_exec X d 132 0 [some (.ref x0), none, none, none] [] w := mw_ent mw_m132 (Nat.le_of_ble_eq_true rfl) rfl
theorem b132_0 {X : mj_X} {d : Nat} {s : mw_S} {l1 : Option Value} {l2 : Option Value} {l3 : Option Value}  : mj_exec X d 132 0 [some (.ref 23), l1, l2, l3] [] (mw_U s) = if (s.1 23 1) ≤ (s.1 23 3) then mj_exec X d 132 52 [some (.ref 23), l1, l2, l3] [] (mw_U s) else mj_exec X d 132 11 [some (.ref 23), l1, l2, l3] [] (mw_U s) := (mj_q_aload_n mw_m132 d132_0 rfl (by decide)).trans ((mw_q_geti mw_m132 d132_1 mw_p7_22 mw_c_23 mw_f_23_3).trans ((mj_q_aload_n mw_m132 d132_4 rfl (by decide)).trans ((mw_q_geti mw_m132 d132_5 mw_p7_15 mw_c_23 mw_f_23_1).trans (mj_q_icmp_ge mw_m132 d132_8 rfl))))
theorem b132_11 {X : mj_X} {d : Nat} {s : mw_S} {l1 : Option Value} {l2 : Option Value} {l3 : Option Value}  : mj_exec X d 132 11 [some (.ref 23), l1, l2, l3] [] (mw_U s) = if mw_in 700 (s.1 23 3) = true then if (s.1 24 ((s.1 23 3)).toNatClampNeg) < (nI 97) then mj_exec X d 132 52 [some (.ref 23), l1, l2, l3] [] (mw_U s) else mj_exec X d 132 25 [some (.ref 23), l1, l2, l3] [] (mw_U s) else none := (mj_q_aload_n mw_m132 d132_11 rfl (by decide)).trans ((mw_q_getr mw_m132 d132_12 mw_p7_9 mw_c_23 mw_f_23_0).trans ((mj_q_aload_n mw_m132 d132_15 rfl (by decide)).trans ((mw_q_geti mw_m132 d132_16 mw_p7_22 mw_c_23 mw_f_23_3).trans ((mw_h_bald mw_m132 d132_19 mw_r_24).trans (mw_g ((mj_q_bipush mw_m132 d132_20 mw_k_bipush_97).trans (mj_q_icmp_lt mw_m132 d132_22 rfl)))))))
theorem b132_25 {X : mj_X} {d : Nat} {s : mw_S} {l1 : Option Value} {l2 : Option Value} {l3 : Option Value}  : mj_exec X d 132 25 [some (.ref 23), l1, l2, l3] [] (mw_U s) = if mw_in 700 (s.1 23 3) = true then if (nI 122) < (s.1 24 ((s.1 23 3)).toNatClampNeg) then mj_exec X d 132 52 [some (.ref 23), l1, l2, l3] [] (mw_U s) else mj_exec X d 132 39 [some (.ref 23), l1, l2, l3] [] (mw_U s) else none := (mj_q_aload_n mw_m132 d132_25 rfl (by decide)).trans ((mw_q_getr mw_m132 d132_26 mw_p7_9 mw_c_23 mw_f_23_0).trans ((mj_q_aload_n mw_m132 d132_29 rfl (by decide)).trans ((mw_q_geti mw_m132 d132_30 mw_p7_22 mw_c_23 mw_f_23_3).trans ((mw_h_bald mw_m132 d132_33 mw_r_24).trans (mw_g ((mj_q_bipush mw_m132 d132_34 mw_k_bipush_122).trans (mj_q_icmp_gt mw_m132 d132_36 rfl)))))))
theorem b132_39 {X : mj_X} {d : Nat} {s : mw_S} {l1 : Option Value} {l2 : Option Value} {l3 : Option Value}  : mj_exec X d 132 39 [some (.ref 23), l1, l2, l3] [] (mw_U s) = mj_exec X d 132 0 [some (.ref 23), l1, l2, l3] [] (mw_U (mw_p s 23 3 ((s.1 23 3) + (nI 1)))) := (mj_q_aload_n mw_m132 d132_39 rfl (by decide)).trans ((mj_q_dup mw_m132 d132_40 rfl).trans ((mw_q_geti mw_m132 d132_41 mw_p7_22 mw_c_23 mw_f_23_3).trans ((mj_q_iconst mw_m132 d132_44 mw_k_iconst_1).trans ((mj_q_iadd mw_m132 d132_45).trans ((mw_q_puti mw_m132 d132_46 mw_p7_22 mw_c_23 mw_f_23_3 (by decide) rfl (.inl rfl)).trans (mj_q_goto mw_m132 d132_49 rfl))))))
theorem b132_52 {X : mj_X} {d : Nat} {s : mw_S} {l1 : Option Value} {l2 : Option Value} {l3 : Option Value}  : mj_exec X d 132 52 [some (.ref 23), l1, l2, l3] [] (mw_U s) = mj_exec X d 132 63 [some (.ref 23), some (.int (nI 0)), some (.int (nI 0)), l3] [] (mw_U (mw_p s 23 4 (nI 200))) := (mj_q_aload_n mw_m132 d132_52 rfl (by decide)).trans ((mj_q_sipush mw_m132 d132_53 mw_k_sipush_200).trans ((mw_q_puti mw_m132 d132_56 mw_p7_25 mw_c_23 mw_f_23_4 (by decide) rfl (.inl rfl)).trans ((mj_q_iconst mw_m132 d132_59 mw_k_iconst_0).trans ((mj_q_istore_n mw_m132 d132_60 (Nat.le_of_ble_eq_true rfl) rfl rfl).trans ((mj_q_iconst mw_m132 d132_61 mw_k_iconst_0).trans (mj_q_istore_n mw_m132 d132_62 (Nat.le_of_ble_eq_true rfl) rfl rfl))))))
theorem b132_63 {X : mj_X} {d : Nat} {s : mw_S} {x1 : Int32} {x2 : Int32} {l3 : Option Value}  : mj_exec X (d + 1) 132 63 [some (.ref 23), some (.int x1), some (.int x2), l3] [] (mw_U s) = (mj_call X d 337 [.ref 1000101] (mw_U s)).bind (mj_bk X (d + 1) 132 69 [some (.ref 23), some (.int x1), some (.int x2), l3] [.int x2]) := (mj_q_iload_n mw_m132 d132_63 rfl).trans ((mj_q_ldcs mw_m132 d132_64 mw_p7_66).trans (mw_q_callv mw_m132 rfl d132_66 mw_p7_68 mw_m337 rfl rfl (Nat.le_of_ble_eq_true rfl) (Nat.le_of_ble_eq_true rfl) rfl (mw_rcvS (by decide)) rfl rfl))
theorem b132_69 {X : mj_X} {d : Nat} {s : mw_S} {x1 : Int32} {x2 : Int32} {l3 : Option Value} {xs0 : Int32} {xs1 : Int32}  : mj_exec X d 132 69 [some (.ref 23), some (.int x1), some (.int x2), l3] [.int xs1, .int xs0] (mw_U s) = if xs1 ≤ xs0 then mj_exec X d 132 160 [some (.ref 23), some (.int x1), some (.int x2), l3] [] (mw_U s) else mj_exec X d 132 72 [some (.ref 23), some (.int x1), some (.int x2), l3] [] (mw_U s) := mj_q_icmp_ge mw_m132 d132_69 rfl
theorem b132_72 {X : mj_X} {d : Nat} {s : mw_S} {x1 : Int32} {x2 : Int32} {l3 : Option Value}  : mj_exec X (d + 1) 132 72 [some (.ref 23), some (.int x1), some (.int x2), l3] [] (mw_U s) = (mj_call X d 339 [.ref 1000101, .int x2] (mw_U s)).bind (mj_bk X (d + 1) 132 78 [some (.ref 23), some (.int x1), some (.int x2), l3] []) := (mj_q_ldcs mw_m132 d132_72 mw_p7_66).trans ((mj_q_iload_n mw_m132 d132_74 rfl).trans (mw_q_callv mw_m132 rfl d132_75 mw_p7_71 mw_m339 rfl rfl (Nat.le_of_ble_eq_true rfl) (Nat.le_of_ble_eq_true rfl) rfl (mw_rcvS (by decide)) rfl rfl))
theorem b132_78 {X : mj_X} {d : Nat} {s : mw_S} {x1 : Int32} {x2 : Int32} {l3 : Option Value} {xs0 : Int32}  : mj_exec X d 132 78 [some (.ref 23), some (.int x1), some (.int x2), l3] [.int xs0] (mw_U s) = if xs0 = (nI 32) then mj_exec X d 132 85 [some (.ref 23), some (.int x1), some (.int x2), some (.int xs0)] [] (mw_U s) else mj_exec X d 132 114 [some (.ref 23), some (.int x1), some (.int x2), some (.int xs0)] [] (mw_U s) := (mj_q_istore_n mw_m132 d132_78 (Nat.le_of_ble_eq_true rfl) rfl rfl).trans ((mj_q_iload_n mw_m132 d132_79 rfl).trans ((mj_q_bipush mw_m132 d132_80 mw_k_bipush_32).trans (mj_q_icmp_ne mw_m132 d132_82 rfl)))
theorem b132_85 {X : mj_X} {d : Nat} {s : mw_S} {x1 : Int32} {x2 : Int32} {x3 : Int32}  : mj_exec X d 132 85 [some (.ref 23), some (.int x1), some (.int x2), some (.int x3)] [] (mw_U s) = if x1 = ((s.1 23 3) - (s.1 23 2)) then mj_exec X d 132 98 [some (.ref 23), some (.int x1), some (.int x2), some (.int x3)] [] (mw_U s) else mj_exec X d 132 99 [some (.ref 23), some (.int x1), some (.int x2), some (.int x3)] [] (mw_U s) := (mj_q_iload_n mw_m132 d132_85 rfl).trans ((mj_q_aload_n mw_m132 d132_86 rfl (by decide)).trans ((mw_q_geti mw_m132 d132_87 mw_p7_22 mw_c_23 mw_f_23_3).trans ((mj_q_aload_n mw_m132 d132_90 rfl (by decide)).trans ((mw_q_geti mw_m132 d132_91 mw_p7_19 mw_c_23 mw_f_23_2).trans ((mj_q_isub mw_m132 d132_94).trans (mj_q_icmp_ne mw_m132 d132_95 rfl))))))
theorem b132_98 {X : mj_X} {d : Nat} {s : mw_S} {x1 : Int32} {x2 : Int32} {x3 : Int32}  : mj_exec X d 132 98 [some (.ref 23), some (.int x1), some (.int x2), some (.int x3)] [] (mw_U s) = some (.inl none, mw_U s) := mj_q_vret mw_m132 d132_98 rfl
theorem b132_99 {X : mj_X} {d : Nat} {s : mw_S} {x1 : Int32} {x2 : Int32} {x3 : Int32}  : mj_exec X d 132 99 [some (.ref 23), some (.int x1), some (.int x2), some (.int x3)] [] (mw_U s) = mj_exec X d 132 154 [some (.ref 23), some (.int (nI 0)), some (.int x2), some (.int x3)] [] (mw_U (mw_p s 23 4 ((s.1 23 4) + (nI 1)))) := (mj_q_aload_n mw_m132 d132_99 rfl (by decide)).trans ((mj_q_dup mw_m132 d132_100 rfl).trans ((mw_q_geti mw_m132 d132_101 mw_p7_25 mw_c_23 mw_f_23_4).trans ((mj_q_iconst mw_m132 d132_104 mw_k_iconst_1).trans ((mj_q_iadd mw_m132 d132_105).trans ((mw_q_puti mw_m132 d132_106 mw_p7_25 mw_c_23 mw_f_23_4 (by decide) rfl (.inl rfl)).trans ((mj_q_iconst mw_m132 d132_109 mw_k_iconst_0).trans ((mj_q_istore_n mw_m132 d132_110 (Nat.le_of_ble_eq_true rfl) rfl rfl).trans (mj_q_goto mw_m132 d132_111 rfl))))))))
theorem b132_114 {X : mj_X} {d : Nat} {s : mw_S} {x1 : Int32} {x2 : Int32} {x3 : Int32}  : mj_exec X d 132 114 [some (.ref 23), some (.int x1), some (.int x2), some (.int x3)] [] (mw_U s) = if x1 < 0 then mj_exec X d 132 152 [some (.ref 23), some (.int x1), some (.int x2), some (.int x3)] [] (mw_U s) else mj_exec X d 132 118 [some (.ref 23), some (.int x1), some (.int x2), some (.int x3)] [] (mw_U s) := (mj_q_iload_n mw_m132 d132_114 rfl).trans (mj_q_if_lt mw_m132 d132_115 rfl)
theorem b132_118 {X : mj_X} {d : Nat} {s : mw_S} {x1 : Int32} {x2 : Int32} {x3 : Int32}  : mj_exec X d 132 118 [some (.ref 23), some (.int x1), some (.int x2), some (.int x3)] [] (mw_U s) = if (s.1 23 3) ≤ ((s.1 23 2) + x1) then mj_exec X d 132 152 [some (.ref 23), some (.int x1), some (.int x2), some (.int x3)] [] (mw_U s) else mj_exec X d 132 131 [some (.ref 23), some (.int x1), some (.int x2), some (.int x3)] [] (mw_U s) := (mj_q_aload_n mw_m132 d132_118 rfl (by decide)).trans ((mw_q_geti mw_m132 d132_119 mw_p7_19 mw_c_23 mw_f_23_2).trans ((mj_q_iload_n mw_m132 d132_122 rfl).trans ((mj_q_iadd mw_m132 d132_123).trans ((mj_q_aload_n mw_m132 d132_124 rfl (by decide)).trans ((mw_q_geti mw_m132 d132_125 mw_p7_22 mw_c_23 mw_f_23_3).trans (mj_q_icmp_ge mw_m132 d132_128 rfl))))))
theorem b132_131 {X : mj_X} {d : Nat} {s : mw_S} {x1 : Int32} {x2 : Int32} {x3 : Int32}  : mj_exec X d 132 131 [some (.ref 23), some (.int x1), some (.int x2), some (.int x3)] [] (mw_U s) = if mw_in 700 ((s.1 23 2) + x1) = true then if (s.1 24 (((s.1 23 2) + x1)).toNatClampNeg) = x3 then mj_exec X d 132 146 [some (.ref 23), some (.int x1), some (.int x2), some (.int x3)] [] (mw_U s) else mj_exec X d 132 152 [some (.ref 23), some (.int x1), some (.int x2), some (.int x3)] [] (mw_U s) else none := (mj_q_aload_n mw_m132 d132_131 rfl (by decide)).trans ((mw_q_getr mw_m132 d132_132 mw_p7_9 mw_c_23 mw_f_23_0).trans ((mj_q_aload_n mw_m132 d132_135 rfl (by decide)).trans ((mw_q_geti mw_m132 d132_136 mw_p7_19 mw_c_23 mw_f_23_2).trans ((mj_q_iload_n mw_m132 d132_139 rfl).trans ((mj_q_iadd mw_m132 d132_140).trans ((mw_h_bald mw_m132 d132_141 mw_r_24).trans (mw_g ((mj_q_iload_n mw_m132 d132_142 rfl).trans (mj_q_icmp_ne mw_m132 d132_143 rfl)))))))))
theorem b132_146 {X : mj_X} {d : Nat} {s : mw_S} {x1 : Int32} {x2 : Int32} {x3 : Int32}  : mj_exec X d 132 146 [some (.ref 23), some (.int x1), some (.int x2), some (.int x3)] [] (mw_U s) = mj_exec X d 132 154 [some (.ref 23), some (.int (x1 + (nI 1))), some (.int x2), some (.int x3)] [] (mw_U s) := (mj_q_iinc mw_m132 d132_146 rfl (Nat.le_of_ble_eq_true rfl) rfl mw_k_iconst_1 rfl).trans (mj_q_goto mw_m132 d132_149 rfl)
theorem b132_152 {X : mj_X} {d : Nat} {s : mw_S} {x1 : Int32} {x2 : Int32} {x3 : Int32}  : mj_exec X d 132 152 [some (.ref 23), some (.int x1), some (.int x2), some (.int x3)] [] (mw_U s) = mj_exec X d 132 154 [some (.ref 23), some (.int (-1)), some (.int x2), some (.int x3)] [] (mw_U s) := (mj_q_iconst mw_m132 d132_152 mw_k_iconst_m1).trans (mj_q_istore_n mw_m132 d132_153 (Nat.le_of_ble_eq_true rfl) rfl rfl)
theorem b132_154 {X : mj_X} {d : Nat} {s : mw_S} {x1 : Int32} {x2 : Int32} {x3 : Int32}  : mj_exec X d 132 154 [some (.ref 23), some (.int x1), some (.int x2), some (.int x3)] [] (mw_U s) = mj_exec X d 132 63 [some (.ref 23), some (.int x1), some (.int (x2 + (nI 1))), some (.int x3)] [] (mw_U s) := (mj_q_iinc mw_m132 d132_154 rfl (Nat.le_of_ble_eq_true rfl) rfl mw_k_iconst_1 rfl).trans (mj_q_goto mw_m132 d132_157 rfl)
theorem b132_160 {X : mj_X} {d : Nat} {s : mw_S} {x1 : Int32} {x2 : Int32} {l3 : Option Value}  : mj_exec X d 132 160 [some (.ref 23), some (.int x1), some (.int x2), l3] [] (mw_U s) = some (.inl none, mw_U s) := mj_q_vret mw_m132 d132_160 rfl
/-- WivesQuarrels$Tokens.readNumber -/
theorem d133_0 : decode prog_10_method_11_code 0 = .ok (.aload_n 0, 1) := by decide +kernel
theorem d133_1 : decode prog_10_method_11_code 1 = .ok (.iconst 0, 1) := by decide +kernel
theorem d133_2 : decode prog_10_method_11_code 2 = .ok (.putfield 28, 3) := by decide +kernel
theorem d133_5 : decode prog_10_method_11_code 5 = .ok (.aload_n 0, 1) := by decide +kernel
theorem d133_6 : decode prog_10_method_11_code 6 = .ok (.getfield 22, 3) := by decide +kernel
theorem d133_9 : decode prog_10_method_11_code 9 = .ok (.aload_n 0, 1) := by decide +kernel
theorem d133_10 : decode prog_10_method_11_code 10 = .ok (.getfield 15, 3) := by decide +kernel
theorem d133_13 : decode prog_10_method_11_code 13 = .ok (.if_icmp .ge 74, 3) := by decide +kernel
theorem d133_16 : decode prog_10_method_11_code 16 = .ok (.aload_n 0, 1) := by decide +kernel
theorem d133_17 : decode prog_10_method_11_code 17 = .ok (.getfield 9, 3) := by decide +kernel
theorem d133_20 : decode prog_10_method_11_code 20 = .ok (.aload_n 0, 1) := by decide +kernel
theorem d133_21 : decode prog_10_method_11_code 21 = .ok (.getfield 22, 3) := by decide +kernel
theorem d133_24 : decode prog_10_method_11_code 24 = .ok (.baload, 1) := by decide +kernel
theorem d133_25 : decode prog_10_method_11_code 25 = .ok (.bipush 48, 2) := by decide +kernel
theorem d133_27 : decode prog_10_method_11_code 27 = .ok (.if_icmp .lt 60, 3) := by decide +kernel
theorem d133_30 : decode prog_10_method_11_code 30 = .ok (.aload_n 0, 1) := by decide +kernel
theorem d133_31 : decode prog_10_method_11_code 31 = .ok (.getfield 9, 3) := by decide +kernel
theorem d133_34 : decode prog_10_method_11_code 34 = .ok (.aload_n 0, 1) := by decide +kernel
theorem d133_35 : decode prog_10_method_11_code 35 = .ok (.getfield 22, 3) := by decide +kernel
theorem d133_38 : decode prog_10_method_11_code 38 = .ok (.baload, 1) := by decide +kernel
theorem d133_39 : decode prog_10_method_11_code 39 = .ok (.bipush 57, 2) := by decide +kernel
theorem d133_41 : decode prog_10_method_11_code 41 = .ok (.if_icmp .gt 46, 3) := by decide +kernel
theorem d133_44 : decode prog_10_method_11_code 44 = .ok (.aload_n 0, 1) := by decide +kernel
theorem d133_45 : decode prog_10_method_11_code 45 = .ok (.sipush 9999, 3) := by decide +kernel
theorem d133_48 : decode prog_10_method_11_code 48 = .ok (.bipush 10, 2) := by decide +kernel
theorem d133_50 : decode prog_10_method_11_code 50 = .ok (.aload_n 0, 1) := by decide +kernel
theorem d133_51 : decode prog_10_method_11_code 51 = .ok (.getfield 28, 3) := by decide +kernel
theorem d133_54 : decode prog_10_method_11_code 54 = .ok (.imul, 1) := by decide +kernel
theorem d133_55 : decode prog_10_method_11_code 55 = .ok (.aload_n 0, 1) := by decide +kernel
theorem d133_56 : decode prog_10_method_11_code 56 = .ok (.getfield 9, 3) := by decide +kernel
theorem d133_59 : decode prog_10_method_11_code 59 = .ok (.aload_n 0, 1) := by decide +kernel
theorem d133_60 : decode prog_10_method_11_code 60 = .ok (.getfield 22, 3) := by decide +kernel
theorem d133_63 : decode prog_10_method_11_code 63 = .ok (.baload, 1) := by decide +kernel
theorem d133_64 : decode prog_10_method_11_code 64 = .ok (.iadd, 1) := by decide +kernel
theorem d133_65 : decode prog_10_method_11_code 65 = .ok (.bipush 48, 2) := by decide +kernel
theorem d133_67 : decode prog_10_method_11_code 67 = .ok (.isub, 1) := by decide +kernel
theorem d133_68 : decode prog_10_method_11_code 68 = .ok (.invokestatic 31, 3) := by decide +kernel
theorem d133_71 : decode prog_10_method_11_code 71 = .ok (.putfield 28, 3) := by decide +kernel
theorem d133_74 : decode prog_10_method_11_code 74 = .ok (.aload_n 0, 1) := by decide +kernel
theorem d133_75 : decode prog_10_method_11_code 75 = .ok (.dup, 1) := by decide +kernel
theorem d133_76 : decode prog_10_method_11_code 76 = .ok (.getfield 22, 3) := by decide +kernel
theorem d133_79 : decode prog_10_method_11_code 79 = .ok (.iconst 1, 1) := by decide +kernel
theorem d133_80 : decode prog_10_method_11_code 80 = .ok (.iadd, 1) := by decide +kernel
theorem d133_81 : decode prog_10_method_11_code 81 = .ok (.putfield 22, 3) := by decide +kernel
theorem d133_84 : decode prog_10_method_11_code 84 = .ok (.goto (-79), 3) := by decide +kernel
theorem d133_87 : decode prog_10_method_11_code 87 = .ok (.aload_n 0, 1) := by decide +kernel
theorem d133_88 : decode prog_10_method_11_code 88 = .ok (.iconst 2, 1) := by decide +kernel
theorem d133_89 : decode prog_10_method_11_code 89 = .ok (.putfield 25, 3) := by decide +kernel
theorem d133_92 : decode prog_10_method_11_code 92 = .ok (.return_, 1) := by decide +kernel
theorem b133 {X : mj_X} {d : Nat} {w : mj_W} {x0 : Nat} : mj_call X d 133 [.ref x0] w = mj_exec X d 133 0 [some (.ref x0)] [] w := mw_ent mw_m133 (Nat.le_of_ble_eq_true rfl) rfl
theorem b133_0 {X : mj_X} {d : Nat} {s : mw_S}   : mj_exec X d 133 0 [some (.ref 23)] [] (mw_U s) = mj_exec X d 133 5 [some (.ref 23)] [] (mw_U (mw_p s 23 5 (nI 0))) := (mj_q_aload_n mw_m133 d133_0 rfl (by decide)).trans ((mj_q_iconst mw_m133 d133_1 mw_k_iconst_0).trans (mw_q_puti mw_m133 d133_2 mw_p7_28 mw_c_23 mw_f_23_5 (by decide) rfl (.inl rfl)))
theorem b133_5 {X : mj_X} {d : Nat} {s : mw_S}   : mj_exec X d 133 5 [some (.ref 23)] [] (mw_U s) = if (s.1 23 1) ≤ (s.1 23 3) then mj_exec X d 133 87 [some (.ref 23)] [] (mw_U s) else mj_exec X d 133 16 [some (.ref 23)] [] (mw_U s) := (mj_q_aload_n mw_m133 d133_5 rfl (by decide)).trans ((mw_q_geti mw_m133 d133_6 mw_p7_22 mw_c_23 mw_f_23_3).trans ((mj_q_aload_n mw_m133 d133_9 rfl (by decide)).trans ((mw_q_geti mw_m133 d133_10 mw_p7_15 mw_c_23 mw_f_23_1).trans (mj_q_icmp_ge mw_m133 d133_13 rfl))))
theorem b133_16 {X : mj_X} {d : Nat} {s : mw_S}   : mj_exec X d 133 16 [some (.ref 23)] [] (mw_U s) = if mw_in 700 (s.1 23 3) = true then if (s.1 24 ((s.1 23 3)).toNatClampNeg) < (nI 48) then mj_exec X d 133 87 [some (.ref 23)] [] (mw_U s) else mj_exec X d 133 30 [some (.ref 23)] [] (mw_U s) else none := (mj_q_aload_n mw_m133 d133_16 rfl (by decide)).trans ((mw_q_getr mw_m133 d133_17 mw_p7_9 mw_c_23 mw_f_23_0).trans ((mj_q_aload_n mw_m133 d133_20 rfl (by decide)).trans ((mw_q_geti mw_m133 d133_21 mw_p7_22 mw_c_23 mw_f_23_3).trans ((mw_h_bald mw_m133 d133_24 mw_r_24).trans (mw_g ((mj_q_bipush mw_m133 d133_25 mw_k_bipush_48).trans (mj_q_icmp_lt mw_m133 d133_27 rfl)))))))
theorem b133_30 {X : mj_X} {d : Nat} {s : mw_S}   : mj_exec X d 133 30 [some (.ref 23)] [] (mw_U s) = if mw_in 700 (s.1 23 3) = true then if (nI 57) < (s.1 24 ((s.1 23 3)).toNatClampNeg) then mj_exec X d 133 87 [some (.ref 23)] [] (mw_U s) else mj_exec X d 133 44 [some (.ref 23)] [] (mw_U s) else none := (mj_q_aload_n mw_m133 d133_30 rfl (by decide)).trans ((mw_q_getr mw_m133 d133_31 mw_p7_9 mw_c_23 mw_f_23_0).trans ((mj_q_aload_n mw_m133 d133_34 rfl (by decide)).trans ((mw_q_geti mw_m133 d133_35 mw_p7_22 mw_c_23 mw_f_23_3).trans ((mw_h_bald mw_m133 d133_38 mw_r_24).trans (mw_g ((mj_q_bipush mw_m133 d133_39 mw_k_bipush_57).trans (mj_q_icmp_gt mw_m133 d133_41 rfl)))))))
theorem b133_44 {X : mj_X} {d : Nat} {s : mw_S}   : mj_exec X d 133 44 [some (.ref 23)] [] (mw_U s) = if mw_in 700 (s.1 23 3) = true then mj_exec X d 133 5 [some (.ref 23)] [] (mw_U (mw_p (mw_p s 23 5 (mw_min (nI 9999) ((((nI 10) * (s.1 23 5)) + (s.1 24 ((s.1 23 3)).toNatClampNeg)) - (nI 48)))) 23 3 (((mw_p s 23 5 (mw_min (nI 9999) ((((nI 10) * (s.1 23 5)) + (s.1 24 ((s.1 23 3)).toNatClampNeg)) - (nI 48)))).1 23 3) + (nI 1)))) else none := (mj_q_aload_n mw_m133 d133_44 rfl (by decide)).trans ((mj_q_sipush mw_m133 d133_45 mw_k_sipush_9999).trans ((mj_q_bipush mw_m133 d133_48 mw_k_bipush_10).trans ((mj_q_aload_n mw_m133 d133_50 rfl (by decide)).trans ((mw_q_geti mw_m133 d133_51 mw_p7_28 mw_c_23 mw_f_23_5).trans ((mj_q_imul mw_m133 d133_54).trans ((mj_q_aload_n mw_m133 d133_55 rfl (by decide)).trans ((mw_q_getr mw_m133 d133_56 mw_p7_9 mw_c_23 mw_f_23_0).trans ((mj_q_aload_n mw_m133 d133_59 rfl (by decide)).trans ((mw_q_geti mw_m133 d133_60 mw_p7_22 mw_c_23 mw_f_23_3).trans ((mw_h_bald mw_m133 d133_63 mw_r_24).trans (mw_g ((mj_q_iadd mw_m133 d133_64).trans ((mj_q_bipush mw_m133 d133_65 mw_k_bipush_48).trans ((mj_q_isub mw_m133 d133_67).trans ((mj_q_min mw_m133 d133_68 mw_p7_31 (Nat.le_of_ble_eq_true rfl)).trans ((mw_q_puti mw_m133 d133_71 mw_p7_28 mw_c_23 mw_f_23_5 (by decide) rfl (.inl rfl)).trans ((mj_q_aload_n mw_m133 d133_74 rfl (by decide)).trans ((mj_q_dup mw_m133 d133_75 rfl).trans ((mw_q_geti mw_m133 d133_76 mw_p7_22 mw_c_23 mw_f_23_3).trans ((mj_q_iconst mw_m133 d133_79 mw_k_iconst_1).trans ((mj_q_iadd mw_m133 d133_80).trans ((mw_q_puti mw_m133 d133_81 mw_p7_22 mw_c_23 mw_f_23_3 (by decide) rfl (.inl rfl)).trans (mj_q_goto mw_m133 d133_84 rfl)))))))))))))))))))))))
theorem b133_87 {X : mj_X} {d : Nat} {s : mw_S}   : mj_exec X d 133 87 [some (.ref 23)] [] (mw_U s) = some (.inl none, mw_U (mw_p s 23 4 (nI 2))) := (mj_q_aload_n mw_m133 d133_87 rfl (by decide)).trans ((mj_q_iconst mw_m133 d133_88 mw_k_iconst_2).trans ((mw_q_puti mw_m133 d133_89 mw_p7_25 mw_c_23 mw_f_23_4 (by decide) rfl (.inl rfl)).trans (mj_q_vret mw_m133 d133_92 rfl)))
/-- WivesQuarrels$Tokens.readSign -/
theorem d134_0 : decode prog_10_method_10_code 0 = .ok (.aload_n 0, 1) := by decide +kernel
theorem d134_1 : decode prog_10_method_10_code 1 = .ok (.getfield 9, 3) := by decide +kernel
theorem d134_4 : decode prog_10_method_10_code 4 = .ok (.aload_n 0, 1) := by decide +kernel
theorem d134_5 : decode prog_10_method_10_code 5 = .ok (.getfield 19, 3) := by decide +kernel
theorem d134_8 : decode prog_10_method_10_code 8 = .ok (.baload, 1) := by decide +kernel
theorem d134_9 : decode prog_10_method_10_code 9 = .ok (.sipush 255, 3) := by decide +kernel
theorem d134_12 : decode prog_10_method_10_code 12 = .ok (.iand, 1) := by decide +kernel
theorem d134_13 : decode prog_10_method_10_code 13 = .ok (.i2c, 1) := by decide +kernel
theorem d134_14 : decode prog_10_method_10_code 14 = .ok (.istore_n 1, 1) := by decide +kernel
theorem d134_15 : decode prog_10_method_10_code 15 = .ok (.aload_n 0, 1) := by decide +kernel
theorem d134_16 : decode prog_10_method_10_code 16 = .ok (.ldc 58, 2) := by decide +kernel
theorem d134_18 : decode prog_10_method_10_code 18 = .ok (.iload_n 1, 1) := by decide +kernel
theorem d134_19 : decode prog_10_method_10_code 19 = .ok (.invokevirtual 60, 3) := by decide +kernel
theorem d134_22 : decode prog_10_method_10_code 22 = .ok (.ifCond .lt 7, 3) := by decide +kernel
theorem d134_25 : decode prog_10_method_10_code 25 = .ok (.iload_n 1, 1) := by decide +kernel
theorem d134_26 : decode prog_10_method_10_code 26 = .ok (.goto 4, 3) := by decide +kernel
theorem d134_29 : decode prog_10_method_10_code 29 = .ok (.iconst 1, 1) := by decide +kernel
theorem d134_30 : decode prog_10_method_10_code 30 = .ok (.putfield 25, 3) := by decide +kernel
theorem d134_33 : decode prog_10_method_10_code 33 = .ok (.aload_n 0, 1) := by decide +kernel
theorem d134_34 : decode prog_10_method_10_code 34 = .ok (.aload_n 0, 1) := by decide +kernel
theorem d134_35 : decode prog_10_method_10_code 35 = .ok (.getfield 19, 3) := by decide +kernel
theorem d134_38 : decode prog_10_method_10_code 38 = .ok (.iconst 1, 1) := by decide +kernel
theorem d134_39 : decode prog_10_method_10_code 39 = .ok (.iadd, 1) := by decide +kernel
theorem d134_40 : decode prog_10_method_10_code 40 = .ok (.putfield 22, 3) := by decide +kernel
theorem d134_43 : decode prog_10_method_10_code 43 = .ok (.return_, 1) := by decide +kernel
theorem b134 {X : mj_X} {d : Nat} {w : mj_W} {x0 : Nat} : mj_call X d 134 [.ref x0] w = mj_exec X d 134 0 [some (.ref x0), none] [] w := mw_ent mw_m134 (Nat.le_of_ble_eq_true rfl) rfl
theorem b134_0 {X : mj_X} {d : Nat} {s : mw_S} {l1 : Option Value}  : mj_exec X (d + 1) 134 0 [some (.ref 23), l1] [] (mw_U s) = if mw_in 700 (s.1 23 2) = true then (mj_call X d 342 [.ref 1000102, .int ((((s.1 24 ((s.1 23 2)).toNatClampNeg) &&& (nI 255))).toUInt32 % 65536).toInt32] (mw_U s)).bind (mj_bk X (d + 1) 134 22 [some (.ref 23), some (.int ((((s.1 24 ((s.1 23 2)).toNatClampNeg) &&& (nI 255))).toUInt32 % 65536).toInt32)] [.ref 23]) else none := (mj_q_aload_n mw_m134 d134_0 rfl (by decide)).trans ((mw_q_getr mw_m134 d134_1 mw_p7_9 mw_c_23 mw_f_23_0).trans ((mj_q_aload_n mw_m134 d134_4 rfl (by decide)).trans ((mw_q_geti mw_m134 d134_5 mw_p7_19 mw_c_23 mw_f_23_2).trans ((mw_h_bald mw_m134 d134_8 mw_r_24).trans (mw_g ((mj_q_sipush mw_m134 d134_9 mw_k_sipush_255).trans ((mj_q_iand mw_m134 d134_12).trans ((mj_q_i2c mw_m134 d134_13).trans ((mj_q_istore_n mw_m134 d134_14 (Nat.le_of_ble_eq_true rfl) rfl rfl).trans ((mj_q_aload_n mw_m134 d134_15 rfl (by decide)).trans ((mj_q_ldcs mw_m134 d134_16 mw_p7_58).trans ((mj_q_iload_n mw_m134 d134_18 rfl).trans (mw_q_callv mw_m134 rfl d134_19 mw_p7_60 mw_m342 rfl rfl (Nat.le_of_ble_eq_true rfl) (Nat.le_of_ble_eq_true rfl) rfl (mw_rcvS (by decide)) rfl rfl)))))))))))))
theorem b134_22 {X : mj_X} {d : Nat} {s : mw_S} {x1 : Int32} {xs1 : Int32}  : mj_exec X d 134 22 [some (.ref 23), some (.int x1)] [.int xs1, .ref 23] (mw_U s) = if xs1 < 0 then mj_exec X d 134 29 [some (.ref 23), some (.int x1)] [.ref 23] (mw_U s) else mj_exec X d 134 25 [some (.ref 23), some (.int x1)] [.ref 23] (mw_U s) := mj_q_if_lt mw_m134 d134_22 rfl
theorem b134_25 {X : mj_X} {d : Nat} {s : mw_S} {x1 : Int32}  : mj_exec X d 134 25 [some (.ref 23), some (.int x1)] [.ref 23] (mw_U s) = mj_exec X d 134 30 [some (.ref 23), some (.int x1)] [.int x1, .ref 23] (mw_U s) := (mj_q_iload_n mw_m134 d134_25 rfl).trans (mj_q_goto mw_m134 d134_26 rfl)
theorem b134_29 {X : mj_X} {d : Nat} {s : mw_S} {x1 : Int32}  : mj_exec X d 134 29 [some (.ref 23), some (.int x1)] [.ref 23] (mw_U s) = mj_exec X d 134 30 [some (.ref 23), some (.int x1)] [.int (nI 1), .ref 23] (mw_U s) := mj_q_iconst mw_m134 d134_29 mw_k_iconst_1
theorem b134_30 {X : mj_X} {d : Nat} {s : mw_S} {x1 : Int32} {xs1 : Int32}  : mj_exec X d 134 30 [some (.ref 23), some (.int x1)] [.int xs1, .ref 23] (mw_U s) = some (.inl none, mw_U (mw_p (mw_p s 23 4 xs1) 23 3 (((mw_p s 23 4 xs1).1 23 2) + (nI 1)))) := (mw_q_puti mw_m134 d134_30 mw_p7_25 mw_c_23 mw_f_23_4 (by decide) rfl (.inl rfl)).trans ((mj_q_aload_n mw_m134 d134_33 rfl (by decide)).trans ((mj_q_aload_n mw_m134 d134_34 rfl (by decide)).trans ((mw_q_geti mw_m134 d134_35 mw_p7_19 mw_c_23 mw_f_23_2).trans ((mj_q_iconst mw_m134 d134_38 mw_k_iconst_1).trans ((mj_q_iadd mw_m134 d134_39).trans ((mw_q_puti mw_m134 d134_40 mw_p7_22 mw_c_23 mw_f_23_3 (by decide) rfl (.inl rfl)).trans (mj_q_vret mw_m134 d134_43 rfl)))))))
/-- WivesQuarrels$Tokens.kind -/
theorem d135_0 : decode prog_10_method_3_code 0 = .ok (.aload_n 0, 1) := by decide +kernel
theorem d135_1 : decode prog_10_method_3_code 1 = .ok (.getfield 25, 3) := by decide +kernel
theorem d135_4 : decode prog_10_method_3_code 4 = .ok (.ireturn, 1) := by decide +kernel
theorem b135 {X : mj_X} {d : Nat} {w : mj_W} {x0 : Nat} : mj_call X d 135 [.ref x0] w = mj_exec X d 135 0 [some (.ref x0)] [] w := mw_ent mw_m135 (Nat.le_of_ble_eq_true rfl) rfl
theorem b135_0 {X : mj_X} {d : Nat} {s : mw_S}   : mj_exec X d 135 0 [some (.ref 23)] [] (mw_U s) = some (.inl (some (.int (s.1 23 4))), mw_U s) := (mj_q_aload_n mw_m135 d135_0 rfl (by decide)).trans ((mw_q_geti mw_m135 d135_1 mw_p7_25 mw_c_23 mw_f_23_4).trans (mj_q_iret mw_m135 d135_4 rfl))
/-- WivesQuarrels$Tokens.start -/
theorem d136_0 : decode prog_10_method_4_code 0 = .ok (.aload_n 0, 1) := by decide +kernel
theorem d136_1 : decode prog_10_method_4_code 1 = .ok (.getfield 19, 3) := by decide +kernel
theorem d136_4 : decode prog_10_method_4_code 4 = .ok (.ireturn, 1) := by decide +kernel
theorem b136 {X : mj_X} {d : Nat} {w : mj_W} {x0 : Nat} : mj_call X d 136 [.ref x0] w = mj_exec X d 136 0 [some (.ref x0)] [] w := mw_ent mw_m136 (Nat.le_of_ble_eq_true rfl) rfl
theorem b136_0 {X : mj_X} {d : Nat} {s : mw_S}   : mj_exec X d 136 0 [some (.ref 23)] [] (mw_U s) = some (.inl (some (.int (s.1 23 2))), mw_U s) := (mj_q_aload_n mw_m136 d136_0 rfl (by decide)).trans ((mw_q_geti mw_m136 d136_1 mw_p7_19 mw_c_23 mw_f_23_2).trans (mj_q_iret mw_m136 d136_4 rfl))
/-- WivesQuarrels$Tokens.number -/
theorem d137_0 : decode prog_10_method_5_code 0 = .ok (.aload_n 0, 1) := by decide +kernel
theorem d137_1 : decode prog_10_method_5_code 1 = .ok (.getfield 28, 3) := by decide +kernel
theorem d137_4 : decode prog_10_method_5_code 4 = .ok (.ireturn, 1) := by decide +kernel
theorem b137 {X : mj_X} {d : Nat} {w : mj_W} {x0 : Nat} : mj_call X d 137 [.ref x0] w = mj_exec X d 137 0 [some (.ref x0)] [] w := mw_ent mw_m137 (Nat.le_of_ble_eq_true rfl) rfl
theorem b137_0 {X : mj_X} {d : Nat} {s : mw_S}   : mj_exec X d 137 0 [some (.ref 23)] [] (mw_U s) = some (.inl (some (.int (s.1 23 5))), mw_U s) := (mj_q_aload_n mw_m137 d137_0 rfl (by decide)).trans ((mw_q_geti mw_m137 d137_1 mw_p7_28 mw_c_23 mw_f_23_5).trans (mj_q_iret mw_m137 d137_4 rfl))
/-- WivesQuarrels$Tokens.hasTooManyDigits -/
theorem d138_0 : decode prog_10_method_6_code 0 = .ok (.aload_n 0, 1) := by decide +kernel
theorem d138_1 : decode prog_10_method_6_code 1 = .ok (.getfield 22, 3) := by decide +kernel
theorem d138_4 : decode prog_10_method_6_code 4 = .ok (.aload_n 0, 1) := by decide +kernel
theorem d138_5 : decode prog_10_method_6_code 5 = .ok (.getfield 19, 3) := by decide +kernel
theorem d138_8 : decode prog_10_method_6_code 8 = .ok (.isub, 1) := by decide +kernel
theorem d138_9 : decode prog_10_method_6_code 9 = .ok (.iconst 4, 1) := by decide +kernel
theorem d138_10 : decode prog_10_method_6_code 10 = .ok (.if_icmp .le 7, 3) := by decide +kernel
theorem d138_13 : decode prog_10_method_6_code 13 = .ok (.iconst 1, 1) := by decide +kernel
theorem d138_14 : decode prog_10_method_6_code 14 = .ok (.goto 4, 3) := by decide +kernel
theorem d138_17 : decode prog_10_method_6_code 17 = .ok (.iconst 0, 1) := by decide +kernel
theorem d138_18 : decode prog_10_method_6_code 18 = .ok (.ireturn, 1) := by decide +kernel
theorem b138 {X : mj_X} {d : Nat} {w : mj_W} {x0 : Nat} : mj_call X d 138 [.ref x0] w = mj_exec X d 138 0 [some (.ref x0)] [] w := mw_ent mw_m138 (Nat.le_of_ble_eq_true rfl) rfl
theorem b138_0 {X : mj_X} {d : Nat} {s : mw_S}   : mj_exec X d 138 0 [some (.ref 23)] [] (mw_U s) = if ((s.1 23 3) - (s.1 23 2)) ≤ (nI 4) then mj_exec X d 138 17 [some (.ref 23)] [] (mw_U s) else mj_exec X d 138 13 [some (.ref 23)] [] (mw_U s) := (mj_q_aload_n mw_m138 d138_0 rfl (by decide)).trans ((mw_q_geti mw_m138 d138_1 mw_p7_22 mw_c_23 mw_f_23_3).trans ((mj_q_aload_n mw_m138 d138_4 rfl (by decide)).trans ((mw_q_geti mw_m138 d138_5 mw_p7_19 mw_c_23 mw_f_23_2).trans ((mj_q_isub mw_m138 d138_8).trans ((mj_q_iconst mw_m138 d138_9 mw_k_iconst_4).trans (mj_q_icmp_le mw_m138 d138_10 rfl))))))
theorem b138_13 {X : mj_X} {d : Nat} {s : mw_S}   : mj_exec X d 138 13 [some (.ref 23)] [] (mw_U s) = mj_exec X d 138 18 [some (.ref 23)] [.int (nI 1)] (mw_U s) := (mj_q_iconst mw_m138 d138_13 mw_k_iconst_1).trans (mj_q_goto mw_m138 d138_14 rfl)
theorem b138_17 {X : mj_X} {d : Nat} {s : mw_S}   : mj_exec X d 138 17 [some (.ref 23)] [] (mw_U s) = mj_exec X d 138 18 [some (.ref 23)] [.int (nI 0)] (mw_U s) := mj_q_iconst mw_m138 d138_17 mw_k_iconst_0
theorem b138_18 {X : mj_X} {d : Nat} {s : mw_S} {xs0 : Int32}  : mj_exec X d 138 18 [some (.ref 23)] [.int xs0] (mw_U s) = if mj_rfit (some .boolean) xs0 = true then some (.inl (some (.int xs0)), mw_U s) else none := mw_h_iret mw_m138 d138_18 rfl
/-- WivesQuarrels$Tokens.isWord -/
theorem d139_0 : decode prog_10_method_7_code 0 = .ok (.aload_n 0, 1) := by decide +kernel
theorem d139_1 : decode prog_10_method_7_code 1 = .ok (.getfield 25, 3) := by decide +kernel
theorem d139_4 : decode prog_10_method_7_code 4 = .ok (.sipush 200, 3) := by decide +kernel
theorem d139_7 : decode prog_10_method_7_code 7 = .ok (.if_icmp .lt 7, 3) := by decide +kernel
theorem d139_10 : decode prog_10_method_7_code 10 = .ok (.iconst 1, 1) := by decide +kernel
theorem d139_11 : decode prog_10_method_7_code 11 = .ok (.goto 4, 3) := by decide +kernel
theorem d139_14 : decode prog_10_method_7_code 14 = .ok (.iconst 0, 1) := by decide +kernel
theorem d139_15 : decode prog_10_method_7_code 15 = .ok (.ireturn, 1) := by decide +kernel
theorem b139 {X : mj_X} {d : Nat} {w : mj_W} {x0 : Nat} : mj_call X d 139 [.ref x0] w = mj_exec X d 139 0 [some (.ref x0)] [] w := mw_ent mw_m139 (Nat.le_of_ble_eq_true rfl) rfl
theorem b139_0 {X : mj_X} {d : Nat} {s : mw_S}   : mj_exec X d 139 0 [some (.ref 23)] [] (mw_U s) = if (s.1 23 4) < (nI 200) then mj_exec X d 139 14 [some (.ref 23)] [] (mw_U s) else mj_exec X d 139 10 [some (.ref 23)] [] (mw_U s) := (mj_q_aload_n mw_m139 d139_0 rfl (by decide)).trans ((mw_q_geti mw_m139 d139_1 mw_p7_25 mw_c_23 mw_f_23_4).trans ((mj_q_sipush mw_m139 d139_4 mw_k_sipush_200).trans (mj_q_icmp_lt mw_m139 d139_7 rfl)))
theorem b139_10 {X : mj_X} {d : Nat} {s : mw_S}   : mj_exec X d 139 10 [some (.ref 23)] [] (mw_U s) = mj_exec X d 139 15 [some (.ref 23)] [.int (nI 1)] (mw_U s) := (mj_q_iconst mw_m139 d139_10 mw_k_iconst_1).trans (mj_q_goto mw_m139 d139_11 rfl)
theorem b139_14 {X : mj_X} {d : Nat} {s : mw_S}   : mj_exec X d 139 14 [some (.ref 23)] [] (mw_U s) = mj_exec X d 139 15 [some (.ref 23)] [.int (nI 0)] (mw_U s) := mj_q_iconst mw_m139 d139_14 mw_k_iconst_0
theorem b139_15 {X : mj_X} {d : Nat} {s : mw_S} {xs0 : Int32}  : mj_exec X d 139 15 [some (.ref 23)] [.int xs0] (mw_U s) = if mj_rfit (some .boolean) xs0 = true then some (.inl (some (.int xs0)), mw_U s) else none := mw_h_iret mw_m139 d139_15 rfl
/-- WivesQuarrels$Tokens.isValue -/
theorem d140_0 : decode prog_10_method_8_code 0 = .ok (.aload_n 0, 1) := by decide +kernel
theorem d140_1 : decode prog_10_method_8_code 1 = .ok (.getfield 25, 3) := by decide +kernel
theorem d140_4 : decode prog_10_method_8_code 4 = .ok (.sipush 200, 3) := by decide +kernel
theorem d140_7 : decode prog_10_method_8_code 7 = .ok (.if_icmp .lt 17, 3) := by decide +kernel
theorem d140_10 : decode prog_10_method_8_code 10 = .ok (.aload_n 0, 1) := by decide +kernel
theorem d140_11 : decode prog_10_method_8_code 11 = .ok (.getfield 25, 3) := by decide +kernel
theorem d140_14 : decode prog_10_method_8_code 14 = .ok (.sipush 205, 3) := by decide +kernel
theorem d140_17 : decode prog_10_method_8_code 17 = .ok (.if_icmp .gt 7, 3) := by decide +kernel
theorem d140_20 : decode prog_10_method_8_code 20 = .ok (.iconst 1, 1) := by decide +kernel
theorem d140_21 : decode prog_10_method_8_code 21 = .ok (.goto 4, 3) := by decide +kernel
theorem d140_24 : decode prog_10_method_8_code 24 = .ok (.iconst 0, 1) := by decide +kernel
theorem d140_25 : decode prog_10_method_8_code 25 = .ok (.ireturn, 1) := by decide +kernel
theorem b140 {X : mj_X} {d : Nat} {w : mj_W} {x0 : Nat} : mj_call X d 140 [.ref x0] w = mj_exec X d 140 0 [some (.ref x0)] [] w := mw_ent mw_m140 (Nat.le_of_ble_eq_true rfl) rfl
theorem b140_0 {X : mj_X} {d : Nat} {s : mw_S}   : mj_exec X d 140 0 [some (.ref 23)] [] (mw_U s) = if (s.1 23 4) < (nI 200) then mj_exec X d 140 24 [some (.ref 23)] [] (mw_U s) else mj_exec X d 140 10 [some (.ref 23)] [] (mw_U s) := (mj_q_aload_n mw_m140 d140_0 rfl (by decide)).trans ((mw_q_geti mw_m140 d140_1 mw_p7_25 mw_c_23 mw_f_23_4).trans ((mj_q_sipush mw_m140 d140_4 mw_k_sipush_200).trans (mj_q_icmp_lt mw_m140 d140_7 rfl)))
theorem b140_10 {X : mj_X} {d : Nat} {s : mw_S}   : mj_exec X d 140 10 [some (.ref 23)] [] (mw_U s) = if (nI 205) < (s.1 23 4) then mj_exec X d 140 24 [some (.ref 23)] [] (mw_U s) else mj_exec X d 140 20 [some (.ref 23)] [] (mw_U s) := (mj_q_aload_n mw_m140 d140_10 rfl (by decide)).trans ((mw_q_geti mw_m140 d140_11 mw_p7_25 mw_c_23 mw_f_23_4).trans ((mj_q_sipush mw_m140 d140_14 mw_k_sipush_205).trans (mj_q_icmp_gt mw_m140 d140_17 rfl)))
theorem b140_20 {X : mj_X} {d : Nat} {s : mw_S}   : mj_exec X d 140 20 [some (.ref 23)] [] (mw_U s) = mj_exec X d 140 25 [some (.ref 23)] [.int (nI 1)] (mw_U s) := (mj_q_iconst mw_m140 d140_20 mw_k_iconst_1).trans (mj_q_goto mw_m140 d140_21 rfl)
theorem b140_24 {X : mj_X} {d : Nat} {s : mw_S}   : mj_exec X d 140 24 [some (.ref 23)] [] (mw_U s) = mj_exec X d 140 25 [some (.ref 23)] [.int (nI 0)] (mw_U s) := mj_q_iconst mw_m140 d140_24 mw_k_iconst_0
theorem b140_25 {X : mj_X} {d : Nat} {s : mw_S} {xs0 : Int32}  : mj_exec X d 140 25 [some (.ref 23)] [.int xs0] (mw_U s) = if mj_rfit (some .boolean) xs0 = true then some (.inl (some (.int xs0)), mw_U s) else none := mw_h_iret mw_m140 d140_25 rfl
