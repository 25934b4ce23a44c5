/-! the methods of WivesQuarrels$Folk, run by run: printed by wip/whole/gen30.py -/
/-- WivesQuarrels$Folk.week -/
theorem d34_0 : decode prog_5_method_9_code 0 = .ok (.aload_n 0, 1) := by decide +kernel
theorem d34_1 : decode prog_5_method_9_code 1 = .ok (.getfield 11, 3) := by decide +kernel
theorem d34_4 : decode prog_5_method_9_code 4 = .ok (.bipush 54, 2) := by decide +kernel
theorem d34_6 : decode prog_5_method_9_code 6 = .ok (.iaload, 1) := by decide +kernel
theorem d34_7 : decode prog_5_method_9_code 7 = .ok (.ireturn, 1) := by decide +kernel
theorem b34 {X : mj_X} {d : Nat} {w : mj_W} {x0 : Nat} : mj_call X d 34 [.ref x0] w = mj_exec X d 34 0 [some (.ref x0)] [] w := mw_ent mw_m34 (Nat.le_of_ble_eq_true rfl) rfl
theorem b34_0 {X : mj_X} {d : Nat} {s : mw_S} {k0 : Nat} (h0 : mw_cl k0 = some 3) : mj_exec X d 34 0 [some (.ref k0)] [] (mw_U s) = if mw_in 64 (nI 54) = true then some (.inl (some (.int (s.1 (k0 + 1) ((nI 54)).toNatClampNeg))), mw_U s) else none := (mj_q_aload_n mw_m34 d34_0 rfl (mw_neo h0)).trans ((mw_q_getr mw_m34 d34_1 mw_p3_11 h0 (mw_f3_0 h0)).trans ((mj_q_bipush mw_m34 d34_4 mw_k_bipush_54).trans ((mw_h_iald mw_m34 d34_6 (mw_a3_0 h0)).trans (mw_g (mj_q_iret mw_m34 d34_7 rfl)))))
/-- WivesQuarrels$Folk.saveTo -/
theorem d35_0 : decode prog_5_method_4_code 0 = .ok (.iload_n 2, 1) := by decide +kernel
theorem d35_1 : decode prog_5_method_4_code 1 = .ok (.ifCond .lt 29, 3) := by decide +kernel
theorem d35_4 : decode prog_5_method_4_code 4 = .ok (.iload_n 2, 1) := by decide +kernel
theorem d35_5 : decode prog_5_method_4_code 5 = .ok (.iconst 1, 1) := by decide +kernel
theorem d35_6 : decode prog_5_method_4_code 6 = .ok (.iadd, 1) := by decide +kernel
theorem d35_7 : decode prog_5_method_4_code 7 = .ok (.bipush 64, 2) := by decide +kernel
theorem d35_9 : decode prog_5_method_4_code 9 = .ok (.imul, 1) := by decide +kernel
theorem d35_10 : decode prog_5_method_4_code 10 = .ok (.aload_n 1, 1) := by decide +kernel
theorem d35_11 : decode prog_5_method_4_code 11 = .ok (.arraylength, 1) := by decide +kernel
theorem d35_12 : decode prog_5_method_4_code 12 = .ok (.if_icmp .gt 18, 3) := by decide +kernel
theorem d35_15 : decode prog_5_method_4_code 15 = .ok (.aload_n 0, 1) := by decide +kernel
theorem d35_16 : decode prog_5_method_4_code 16 = .ok (.getfield 11, 3) := by decide +kernel
theorem d35_19 : decode prog_5_method_4_code 19 = .ok (.iconst 0, 1) := by decide +kernel
theorem d35_20 : decode prog_5_method_4_code 20 = .ok (.aload_n 1, 1) := by decide +kernel
theorem d35_21 : decode prog_5_method_4_code 21 = .ok (.iload_n 2, 1) := by decide +kernel
theorem d35_22 : decode prog_5_method_4_code 22 = .ok (.bipush 64, 2) := by decide +kernel
theorem d35_24 : decode prog_5_method_4_code 24 = .ok (.imul, 1) := by decide +kernel
theorem d35_25 : decode prog_5_method_4_code 25 = .ok (.bipush 64, 2) := by decide +kernel
theorem d35_27 : decode prog_5_method_4_code 27 = .ok (.invokestatic 21, 3) := by decide +kernel
theorem d35_30 : decode prog_5_method_4_code 30 = .ok (.return_, 1) := by decide +kernel
theorem b35 {X : mj_X} {d : Nat} {w : mj_W} {x0 : Nat} {x1 : Nat} {x2 : Int32} : mj_call X d 35 [.ref x0, .ref x1, .int x2] w = mj_exec X d 35 0 [some (.ref x0), some (.ref x1), some (.int x2)] [] w := mw_ent mw_m35 (Nat.le_of_ble_eq_true rfl) rfl
theorem b35_0 {X : mj_X} {d : Nat} {s : mw_S} {k0 : Nat} {k1 : Nat} {n1 : Nat} {x2 : Int32} (h0 : mw_cl k0 = some 3) (h1 : mw_rw k1 = some (.int, n1)) : mj_exec X d 35 0 [some (.ref k0), some (.ref k1), some (.int x2)] [] (mw_U s) = if x2 < 0 then mj_exec X d 35 30 [some (.ref k0), some (.ref k1), some (.int x2)] [] (mw_U s) else mj_exec X d 35 4 [some (.ref k0), some (.ref k1), some (.int x2)] [] (mw_U s) := (mj_q_iload_n mw_m35 d35_0 rfl).trans (mj_q_if_lt mw_m35 d35_1 rfl)
theorem b35_4 {X : mj_X} {d : Nat} {s : mw_S} {k0 : Nat} {k1 : Nat} {n1 : Nat} {x2 : Int32} (h0 : mw_cl k0 = some 3) (h1 : mw_rw k1 = some (.int, n1)) : mj_exec X d 35 4 [some (.ref k0), some (.ref k1), some (.int x2)] [] (mw_U s) = if (nI n1) < ((x2 + (nI 1)) * (nI 64)) then mj_exec X d 35 30 [some (.ref k0), some (.ref k1), some (.int x2)] [] (mw_U s) else mj_exec X d 35 15 [some (.ref k0), some (.ref k1), some (.int x2)] [] (mw_U s) := (mj_q_iload_n mw_m35 d35_4 rfl).trans ((mj_q_iconst mw_m35 d35_5 mw_k_iconst_1).trans ((mj_q_iadd mw_m35 d35_6).trans ((mj_q_bipush mw_m35 d35_7 mw_k_bipush_64).trans ((mj_q_imul mw_m35 d35_9).trans ((mj_q_aload_n mw_m35 d35_10 rfl (mw_nea h1)).trans ((mw_q_alen mw_m35 d35_11 h1).trans (mj_q_icmp_gt mw_m35 d35_12 rfl)))))))
theorem b35_15 {X : mj_X} {d : Nat} {s : mw_S} {k0 : Nat} {k1 : Nat} {n1 : Nat} {x2 : Int32} (h0 : mw_cl k0 = some 3) (h1 : mw_rw k1 = some (.int, n1)) : mj_exec X d 35 15 [some (.ref k0), some (.ref k1), some (.int x2)] [] (mw_U s) = if mw_cp 64 n1 (nI 0) (x2 * (nI 64)) (nI 64) = true then mj_exec X d 35 30 [some (.ref k0), some (.ref k1), some (.int x2)] [] (mw_U (mw_c s (k0 + 1) k1 ((nI 0)).toNatClampNeg ((x2 * (nI 64))).toNatClampNeg ((nI 64)).toNatClampNeg)) else none := (mj_q_aload_n mw_m35 d35_15 rfl (mw_neo h0)).trans ((mw_q_getr mw_m35 d35_16 mw_p3_11 h0 (mw_f3_0 h0)).trans ((mj_q_iconst mw_m35 d35_19 mw_k_iconst_0).trans ((mj_q_aload_n mw_m35 d35_20 rfl (mw_nea h1)).trans ((mj_q_iload_n mw_m35 d35_21 rfl).trans ((mj_q_bipush mw_m35 d35_22 mw_k_bipush_64).trans ((mj_q_imul mw_m35 d35_24).trans ((mj_q_bipush mw_m35 d35_25 mw_k_bipush_64).trans ((mw_h_copy mw_m35 d35_27 mw_p3_21 (mw_a3_0 h0) h1 (Nat.le_of_ble_eq_true rfl)).trans (mw_g (rfl))))))))))
theorem b35_30 {X : mj_X} {d : Nat} {s : mw_S} {k0 : Nat} {k1 : Nat} {n1 : Nat} {x2 : Int32} (h0 : mw_cl k0 = some 3) (h1 : mw_rw k1 = some (.int, n1)) : mj_exec X d 35 30 [some (.ref k0), some (.ref k1), some (.int x2)] [] (mw_U s) = some (.inl none, mw_U s) := mj_q_vret mw_m35 d35_30 rfl
/-- WivesQuarrels$Folk.hasQuarrel -/
theorem d36_0 : decode prog_5_method_18_code 0 = .ok (.aload_n 0, 1) := by decide +kernel
theorem d36_1 : decode prog_5_method_18_code 1 = .ok (.iload_n 1, 1) := by decide +kernel
theorem d36_2 : decode prog_5_method_18_code 2 = .ok (.invokevirtual 35, 3) := by decide +kernel
theorem d36_5 : decode prog_5_method_18_code 5 = .ok (.ifCond .le 7, 3) := by decide +kernel
theorem d36_8 : decode prog_5_method_18_code 8 = .ok (.iconst 1, 1) := by decide +kernel
theorem d36_9 : decode prog_5_method_18_code 9 = .ok (.goto 4, 3) := by decide +kernel
theorem d36_12 : decode prog_5_method_18_code 12 = .ok (.iconst 0, 1) := by decide +kernel
theorem d36_13 : decode prog_5_method_18_code 13 = .ok (.ireturn, 1) := by decide +kernel
theorem b36 {X : mj_X} {d : Nat} {w : mj_W} {x0 : Nat} {x1 : Int32} : mj_call X d 36 [.ref x0, .int x1] w = mj_exec X d 36 0 [some (.ref x0), some (.int x1)] [] w := mw_ent mw_m36 (Nat.le_of_ble_eq_true rfl) rfl
theorem b36_0 {X : mj_X} {d : Nat} {s : mw_S} {k0 : Nat} {x1 : Int32} (h0 : mw_cl k0 = some 3) : mj_exec X (d + 1) 36 0 [some (.ref k0), some (.int x1)] [] (mw_U s) = (mj_call X d 37 [.ref k0, .int x1] (mw_U s)).bind (mj_bk X (d + 1) 36 5 [some (.ref k0), some (.int x1)] []) := (mj_q_aload_n mw_m36 d36_0 rfl (mw_neo h0)).trans ((mj_q_iload_n mw_m36 d36_1 rfl).trans (mw_q_callv mw_m36 rfl d36_2 mw_p3_35 mw_m37 rfl rfl (Nat.le_of_ble_eq_true rfl) (Nat.le_of_ble_eq_true rfl) rfl (mw_rcv h0) rfl rfl))
theorem b36_5 {X : mj_X} {d : Nat} {s : mw_S} {k0 : Nat} {x1 : Int32} {xs0 : Int32} (h0 : mw_cl k0 = some 3) : mj_exec X d 36 5 [some (.ref k0), some (.int x1)] [.int xs0] (mw_U s) = if xs0 ≤ 0 then mj_exec X d 36 12 [some (.ref k0), some (.int x1)] [] (mw_U s) else mj_exec X d 36 8 [some (.ref k0), some (.int x1)] [] (mw_U s) := mj_q_if_le mw_m36 d36_5 rfl
theorem b36_8 {X : mj_X} {d : Nat} {s : mw_S} {k0 : Nat} {x1 : Int32} (h0 : mw_cl k0 = some 3) : mj_exec X d 36 8 [some (.ref k0), some (.int x1)] [] (mw_U s) = mj_exec X d 36 13 [some (.ref k0), some (.int x1)] [.int (nI 1)] (mw_U s) := (mj_q_iconst mw_m36 d36_8 mw_k_iconst_1).trans (mj_q_goto mw_m36 d36_9 rfl)
theorem b36_12 {X : mj_X} {d : Nat} {s : mw_S} {k0 : Nat} {x1 : Int32} (h0 : mw_cl k0 = some 3) : mj_exec X d 36 12 [some (.ref k0), some (.int x1)] [] (mw_U s) = mj_exec X d 36 13 [some (.ref k0), some (.int x1)] [.int (nI 0)] (mw_U s) := mj_q_iconst mw_m36 d36_12 mw_k_iconst_0
theorem b36_13 {X : mj_X} {d : Nat} {s : mw_S} {k0 : Nat} {x1 : Int32} {xs0 : Int32} (h0 : mw_cl k0 = some 3) : mj_exec X d 36 13 [some (.ref k0), some (.int x1)] [.int xs0] (mw_U s) = if mj_rfit (some .boolean) xs0 = true then some (.inl (some (.int xs0)), mw_U s) else none := mw_h_iret mw_m36 d36_13 rfl
/-- WivesQuarrels$Folk.heat -/
theorem d37_0 : decode prog_5_method_19_code 0 = .ok (.iload_n 1, 1) := by decide +kernel
theorem d37_1 : decode prog_5_method_19_code 1 = .ok (.ifCond .lt 9, 3) := by decide +kernel
theorem d37_4 : decode prog_5_method_19_code 4 = .ok (.iload_n 1, 1) := by decide +kernel
theorem d37_5 : decode prog_5_method_19_code 5 = .ok (.bipush 28, 2) := by decide +kernel
theorem d37_7 : decode prog_5_method_19_code 7 = .ok (.if_icmp .lt 7, 3) := by decide +kernel
theorem d37_10 : decode prog_5_method_19_code 10 = .ok (.iconst 0, 1) := by decide +kernel
theorem d37_11 : decode prog_5_method_19_code 11 = .ok (.goto 15, 3) := by decide +kernel
theorem d37_14 : decode prog_5_method_19_code 14 = .ok (.aload_n 0, 1) := by decide +kernel
theorem d37_15 : decode prog_5_method_19_code 15 = .ok (.getfield 11, 3) := by decide +kernel
theorem d37_18 : decode prog_5_method_19_code 18 = .ok (.bipush 24, 2) := by decide +kernel
theorem d37_20 : decode prog_5_method_19_code 20 = .ok (.iload_n 1, 1) := by decide +kernel
theorem d37_21 : decode prog_5_method_19_code 21 = .ok (.iadd, 1) := by decide +kernel
theorem d37_22 : decode prog_5_method_19_code 22 = .ok (.iaload, 1) := by decide +kernel
theorem d37_23 : decode prog_5_method_19_code 23 = .ok (.bipush 127, 2) := by decide +kernel
theorem d37_25 : decode prog_5_method_19_code 25 = .ok (.iand, 1) := by decide +kernel
theorem d37_26 : decode prog_5_method_19_code 26 = .ok (.ireturn, 1) := by decide +kernel
theorem b37 {X : mj_X} {d : Nat} {w : mj_W} {x0 : Nat} {x1 : Int32} : mj_call X d 37 [.ref x0, .int x1] w = mj_exec X d 37 0 [some (.ref x0), some (.int x1)] [] w := mw_ent mw_m37 (Nat.le_of_ble_eq_true rfl) rfl
theorem b37_0 {X : mj_X} {d : Nat} {s : mw_S} {k0 : Nat} {x1 : Int32} (h0 : mw_cl k0 = some 3) : mj_exec X d 37 0 [some (.ref k0), some (.int x1)] [] (mw_U s) = if x1 < 0 then mj_exec X d 37 10 [some (.ref k0), some (.int x1)] [] (mw_U s) else mj_exec X d 37 4 [some (.ref k0), some (.int x1)] [] (mw_U s) := (mj_q_iload_n mw_m37 d37_0 rfl).trans (mj_q_if_lt mw_m37 d37_1 rfl)
theorem b37_4 {X : mj_X} {d : Nat} {s : mw_S} {k0 : Nat} {x1 : Int32} (h0 : mw_cl k0 = some 3) : mj_exec X d 37 4 [some (.ref k0), some (.int x1)] [] (mw_U s) = if x1 < (nI 28) then mj_exec X d 37 14 [some (.ref k0), some (.int x1)] [] (mw_U s) else mj_exec X d 37 10 [some (.ref k0), some (.int x1)] [] (mw_U s) := (mj_q_iload_n mw_m37 d37_4 rfl).trans ((mj_q_bipush mw_m37 d37_5 mw_k_bipush_28).trans (mj_q_icmp_lt mw_m37 d37_7 rfl))
theorem b37_10 {X : mj_X} {d : Nat} {s : mw_S} {k0 : Nat} {x1 : Int32} (h0 : mw_cl k0 = some 3) : mj_exec X d 37 10 [some (.ref k0), some (.int x1)] [] (mw_U s) = mj_exec X d 37 26 [some (.ref k0), some (.int x1)] [.int (nI 0)] (mw_U s) := (mj_q_iconst mw_m37 d37_10 mw_k_iconst_0).trans (mj_q_goto mw_m37 d37_11 rfl)
theorem b37_14 {X : mj_X} {d : Nat} {s : mw_S} {k0 : Nat} {x1 : Int32} (h0 : mw_cl k0 = some 3) : mj_exec X d 37 14 [some (.ref k0), some (.int x1)] [] (mw_U s) = if mw_in 64 ((nI 24) + x1) = true then mj_exec X d 37 26 [some (.ref k0), some (.int x1)] [.int ((s.1 (k0 + 1) (((nI 24) + x1)).toNatClampNeg) &&& (nI 127))] (mw_U s) else none := (mj_q_aload_n mw_m37 d37_14 rfl (mw_neo h0)).trans ((mw_q_getr mw_m37 d37_15 mw_p3_11 h0 (mw_f3_0 h0)).trans ((mj_q_bipush mw_m37 d37_18 mw_k_bipush_24).trans ((mj_q_iload_n mw_m37 d37_20 rfl).trans ((mj_q_iadd mw_m37 d37_21).trans ((mw_h_iald mw_m37 d37_22 (mw_a3_0 h0)).trans (mw_g ((mj_q_bipush mw_m37 d37_23 mw_k_bipush_127).trans (mj_q_iand mw_m37 d37_25))))))))
theorem b37_26 {X : mj_X} {d : Nat} {s : mw_S} {k0 : Nat} {x1 : Int32} {xs0 : Int32} (h0 : mw_cl k0 = some 3) : mj_exec X d 37 26 [some (.ref k0), some (.int x1)] [.int xs0] (mw_U s) = some (.inl (some (.int xs0)), mw_U s) := mj_q_iret mw_m37 d37_26 rfl
/-- WivesQuarrels$Folk.nerve -/
theorem d38_0 : decode prog_5_method_12_code 0 = .ok (.iload_n 1, 1) := by decide +kernel
theorem d38_1 : decode prog_5_method_12_code 1 = .ok (.invokestatic 27, 3) := by decide +kernel
theorem d38_4 : decode prog_5_method_12_code 4 = .ok (.ifCond .eq 14, 3) := by decide +kernel
theorem d38_7 : decode prog_5_method_12_code 7 = .ok (.aload_n 0, 1) := by decide +kernel
theorem d38_8 : decode prog_5_method_12_code 8 = .ok (.getfield 11, 3) := by decide +kernel
theorem d38_11 : decode prog_5_method_12_code 11 = .ok (.iconst 0, 1) := by decide +kernel
theorem d38_12 : decode prog_5_method_12_code 12 = .ok (.iload_n 1, 1) := by decide +kernel
theorem d38_13 : decode prog_5_method_12_code 13 = .ok (.iadd, 1) := by decide +kernel
theorem d38_14 : decode prog_5_method_12_code 14 = .ok (.iaload, 1) := by decide +kernel
theorem d38_15 : decode prog_5_method_12_code 15 = .ok (.goto 4, 3) := by decide +kernel
theorem d38_18 : decode prog_5_method_12_code 18 = .ok (.iconst 0, 1) := by decide +kernel
theorem d38_19 : decode prog_5_method_12_code 19 = .ok (.ireturn, 1) := by decide +kernel
theorem b38 {X : mj_X} {d : Nat} {w : mj_W} {x0 : Nat} {x1 : Int32} : mj_call X d 38 [.ref x0, .int x1] w = mj_exec X d 38 0 [some (.ref x0), some (.int x1)] [] w := mw_ent mw_m38 (Nat.le_of_ble_eq_true rfl) rfl
theorem b38_0 {X : mj_X} {d : Nat} {s : mw_S} {k0 : Nat} {x1 : Int32} (h0 : mw_cl k0 = some 3) : mj_exec X (d + 1) 38 0 [some (.ref k0), some (.int x1)] [] (mw_U s) = (mj_call X d 39 [.int x1] (mw_U s)).bind (mj_bk X (d + 1) 38 4 [some (.ref k0), some (.int x1)] []) := (mj_q_iload_n mw_m38 d38_0 rfl).trans (mw_q_calls mw_m38 rfl d38_1 mw_p3_27 mw_m39 rfl (Nat.le_of_ble_eq_true rfl) (Nat.le_of_ble_eq_true rfl) rfl rfl)
theorem b38_4 {X : mj_X} {d : Nat} {s : mw_S} {k0 : Nat} {x1 : Int32} {xs0 : Int32} (h0 : mw_cl k0 = some 3) : mj_exec X d 38 4 [some (.ref k0), some (.int x1)] [.int xs0] (mw_U s) = if xs0 = 0 then mj_exec X d 38 18 [some (.ref k0), some (.int x1)] [] (mw_U s) else mj_exec X d 38 7 [some (.ref k0), some (.int x1)] [] (mw_U s) := mj_q_if_eq mw_m38 d38_4 rfl
theorem b38_7 {X : mj_X} {d : Nat} {s : mw_S} {k0 : Nat} {x1 : Int32} (h0 : mw_cl k0 = some 3) : mj_exec X d 38 7 [some (.ref k0), some (.int x1)] [] (mw_U s) = if mw_in 64 ((nI 0) + x1) = true then mj_exec X d 38 19 [some (.ref k0), some (.int x1)] [.int (s.1 (k0 + 1) (((nI 0) + x1)).toNatClampNeg)] (mw_U s) else none := (mj_q_aload_n mw_m38 d38_7 rfl (mw_neo h0)).trans ((mw_q_getr mw_m38 d38_8 mw_p3_11 h0 (mw_f3_0 h0)).trans ((mj_q_iconst mw_m38 d38_11 mw_k_iconst_0).trans ((mj_q_iload_n mw_m38 d38_12 rfl).trans ((mj_q_iadd mw_m38 d38_13).trans ((mw_h_iald mw_m38 d38_14 (mw_a3_0 h0)).trans (mw_g (mj_q_goto mw_m38 d38_15 rfl)))))))
theorem b38_18 {X : mj_X} {d : Nat} {s : mw_S} {k0 : Nat} {x1 : Int32} (h0 : mw_cl k0 = some 3) : mj_exec X d 38 18 [some (.ref k0), some (.int x1)] [] (mw_U s) = mj_exec X d 38 19 [some (.ref k0), some (.int x1)] [.int (nI 0)] (mw_U s) := mj_q_iconst mw_m38 d38_18 mw_k_iconst_0
theorem b38_19 {X : mj_X} {d : Nat} {s : mw_S} {k0 : Nat} {x1 : Int32} {xs0 : Int32} (h0 : mw_cl k0 = some 3) : mj_exec X d 38 19 [some (.ref k0), some (.int x1)] [.int xs0] (mw_U s) = some (.inl (some (.int xs0)), mw_U s) := mj_q_iret mw_m38 d38_19 rfl
/-- WivesQuarrels$Folk.isPlace -/
theorem d39_0 : decode prog_5_method_6_code 0 = .ok (.iload_n 0, 1) := by decide +kernel
theorem d39_1 : decode prog_5_method_6_code 1 = .ok (.ifCond .lt 13, 3) := by decide +kernel
theorem d39_4 : decode prog_5_method_6_code 4 = .ok (.iload_n 0, 1) := by decide +kernel
theorem d39_5 : decode prog_5_method_6_code 5 = .ok (.bipush 8, 2) := by decide +kernel
theorem d39_7 : decode prog_5_method_6_code 7 = .ok (.if_icmp .ge 7, 3) := by decide +kernel
theorem d39_10 : decode prog_5_method_6_code 10 = .ok (.iconst 1, 1) := by decide +kernel
theorem d39_11 : decode prog_5_method_6_code 11 = .ok (.goto 4, 3) := by decide +kernel
theorem d39_14 : decode prog_5_method_6_code 14 = .ok (.iconst 0, 1) := by decide +kernel
theorem d39_15 : decode prog_5_method_6_code 15 = .ok (.ireturn, 1) := by decide +kernel
theorem b39 {X : mj_X} {d : Nat} {w : mj_W} {x0 : Int32} : mj_call X d 39 [.int x0] w = mj_exec X d 39 0 [some (.int x0)] [] w := mw_ent mw_m39 (Nat.le_of_ble_eq_true rfl) rfl
theorem b39_0 {X : mj_X} {d : Nat} {s : mw_S} {x0 : Int32}  : mj_exec X d 39 0 [some (.int x0)] [] (mw_U s) = if x0 < 0 then mj_exec X d 39 14 [some (.int x0)] [] (mw_U s) else mj_exec X d 39 4 [some (.int x0)] [] (mw_U s) := (mj_q_iload_n mw_m39 d39_0 rfl).trans (mj_q_if_lt mw_m39 d39_1 rfl)
theorem b39_4 {X : mj_X} {d : Nat} {s : mw_S} {x0 : Int32}  : mj_exec X d 39 4 [some (.int x0)] [] (mw_U s) = if (nI 8) ≤ x0 then mj_exec X d 39 14 [some (.int x0)] [] (mw_U s) else mj_exec X d 39 10 [some (.int x0)] [] (mw_U s) := (mj_q_iload_n mw_m39 d39_4 rfl).trans ((mj_q_bipush mw_m39 d39_5 mw_k_bipush_8).trans (mj_q_icmp_ge mw_m39 d39_7 rfl))
theorem b39_10 {X : mj_X} {d : Nat} {s : mw_S} {x0 : Int32}  : mj_exec X d 39 10 [some (.int x0)] [] (mw_U s) = mj_exec X d 39 15 [some (.int x0)] [.int (nI 1)] (mw_U s) := (mj_q_iconst mw_m39 d39_10 mw_k_iconst_1).trans (mj_q_goto mw_m39 d39_11 rfl)
theorem b39_14 {X : mj_X} {d : Nat} {s : mw_S} {x0 : Int32}  : mj_exec X d 39 14 [some (.int x0)] [] (mw_U s) = mj_exec X d 39 15 [some (.int x0)] [.int (nI 0)] (mw_U s) := mj_q_iconst mw_m39 d39_14 mw_k_iconst_0
theorem b39_15 {X : mj_X} {d : Nat} {s : mw_S} {x0 : Int32} {xs0 : Int32}  : mj_exec X d 39 15 [some (.int x0)] [.int xs0] (mw_U s) = if mj_rfit (some .boolean) xs0 = true then some (.inl (some (.int xs0)), mw_U s) else none := mw_h_iret mw_m39 d39_15 rfl
/-- WivesQuarrels$Folk.ties -/
theorem d40_0 : decode prog_5_method_26_code 0 = .ok (.iload_n 1, 1) := by decide +kernel
theorem d40_1 : decode prog_5_method_26_code 1 = .ok (.invokestatic 27, 3) := by decide +kernel
theorem d40_4 : decode prog_5_method_26_code 4 = .ok (.ifCond .eq 15, 3) := by decide +kernel
theorem d40_7 : decode prog_5_method_26_code 7 = .ok (.aload_n 0, 1) := by decide +kernel
theorem d40_8 : decode prog_5_method_26_code 8 = .ok (.getfield 11, 3) := by decide +kernel
theorem d40_11 : decode prog_5_method_26_code 11 = .ok (.bipush 56, 2) := by decide +kernel
theorem d40_13 : decode prog_5_method_26_code 13 = .ok (.iload_n 1, 1) := by decide +kernel
theorem d40_14 : decode prog_5_method_26_code 14 = .ok (.iadd, 1) := by decide +kernel
theorem d40_15 : decode prog_5_method_26_code 15 = .ok (.iaload, 1) := by decide +kernel
theorem d40_16 : decode prog_5_method_26_code 16 = .ok (.goto 4, 3) := by decide +kernel
theorem d40_19 : decode prog_5_method_26_code 19 = .ok (.iconst 0, 1) := by decide +kernel
theorem d40_20 : decode prog_5_method_26_code 20 = .ok (.ireturn, 1) := by decide +kernel
theorem b40 {X : mj_X} {d : Nat} {w : mj_W} {x0 : Nat} {x1 : Int32} : mj_call X d 40 [.ref x0, .int x1] w = mj_exec X d 40 0 [some (.ref x0), some (.int x1)] [] w := mw_ent mw_m40 (Nat.le_of_ble_eq_true rfl) rfl
theorem b40_0 {X : mj_X} {d : Nat} {s : mw_S} {k0 : Nat} {x1 : Int32} (h0 : mw_cl k0 = some 3) : mj_exec X (d + 1) 40 0 [some (.ref k0), some (.int x1)] [] (mw_U s) = (mj_call X d 39 [.int x1] (mw_U s)).bind (mj_bk X (d + 1) 40 4 [some (.ref k0), some (.int x1)] []) := (mj_q_iload_n mw_m40 d40_0 rfl).trans (mw_q_calls mw_m40 rfl d40_1 mw_p3_27 mw_m39 rfl (Nat.le_of_ble_eq_true rfl) (Nat.le_of_ble_eq_true rfl) rfl rfl)
theorem b40_4 {X : mj_X} {d : Nat} {s : mw_S} {k0 : Nat} {x1 : Int32} {xs0 : Int32} (h0 : mw_cl k0 = some 3) : mj_exec X d 40 4 [some (.ref k0), some (.int x1)] [.int xs0] (mw_U s) = if xs0 = 0 then mj_exec X d 40 19 [some (.ref k0), some (.int x1)] [] (mw_U s) else mj_exec X d 40 7 [some (.ref k0), some (.int x1)] [] (mw_U s) := mj_q_if_eq mw_m40 d40_4 rfl
theorem b40_7 {X : mj_X} {d : Nat} {s : mw_S} {k0 : Nat} {x1 : Int32} (h0 : mw_cl k0 = some 3) : mj_exec X d 40 7 [some (.ref k0), some (.int x1)] [] (mw_U s) = if mw_in 64 ((nI 56) + x1) = true then mj_exec X d 40 20 [some (.ref k0), some (.int x1)] [.int (s.1 (k0 + 1) (((nI 56) + x1)).toNatClampNeg)] (mw_U s) else none := (mj_q_aload_n mw_m40 d40_7 rfl (mw_neo h0)).trans ((mw_q_getr mw_m40 d40_8 mw_p3_11 h0 (mw_f3_0 h0)).trans ((mj_q_bipush mw_m40 d40_11 mw_k_bipush_56).trans ((mj_q_iload_n mw_m40 d40_13 rfl).trans ((mj_q_iadd mw_m40 d40_14).trans ((mw_h_iald mw_m40 d40_15 (mw_a3_0 h0)).trans (mw_g (mj_q_goto mw_m40 d40_16 rfl)))))))
theorem b40_19 {X : mj_X} {d : Nat} {s : mw_S} {k0 : Nat} {x1 : Int32} (h0 : mw_cl k0 = some 3) : mj_exec X d 40 19 [some (.ref k0), some (.int x1)] [] (mw_U s) = mj_exec X d 40 20 [some (.ref k0), some (.int x1)] [.int (nI 0)] (mw_U s) := mj_q_iconst mw_m40 d40_19 mw_k_iconst_0
theorem b40_20 {X : mj_X} {d : Nat} {s : mw_S} {k0 : Nat} {x1 : Int32} {xs0 : Int32} (h0 : mw_cl k0 = some 3) : mj_exec X d 40 20 [some (.ref k0), some (.int x1)] [.int xs0] (mw_U s) = some (.inl (some (.int xs0)), mw_U s) := mj_q_iret mw_m40 d40_20 rfl
/-- WivesQuarrels$Folk.cut -/
theorem d41_0 : decode prog_5_method_21_code 0 = .ok (.iload_n 1, 1) := by decide +kernel
theorem d41_1 : decode prog_5_method_21_code 1 = .ok (.ifCond .lt 9, 3) := by decide +kernel
theorem d41_4 : decode prog_5_method_21_code 4 = .ok (.iload_n 1, 1) := by decide +kernel
theorem d41_5 : decode prog_5_method_21_code 5 = .ok (.bipush 28, 2) := by decide +kernel
theorem d41_7 : decode prog_5_method_21_code 7 = .ok (.if_icmp .lt 7, 3) := by decide +kernel
theorem d41_10 : decode prog_5_method_21_code 10 = .ok (.iconst 0, 1) := by decide +kernel
theorem d41_11 : decode prog_5_method_21_code 11 = .ok (.goto 15, 3) := by decide +kernel
theorem d41_14 : decode prog_5_method_21_code 14 = .ok (.aload_n 0, 1) := by decide +kernel
theorem d41_15 : decode prog_5_method_21_code 15 = .ok (.getfield 11, 3) := by decide +kernel
theorem d41_18 : decode prog_5_method_21_code 18 = .ok (.bipush 24, 2) := by decide +kernel
theorem d41_20 : decode prog_5_method_21_code 20 = .ok (.iload_n 1, 1) := by decide +kernel
theorem d41_21 : decode prog_5_method_21_code 21 = .ok (.iadd, 1) := by decide +kernel
theorem d41_22 : decode prog_5_method_21_code 22 = .ok (.iaload, 1) := by decide +kernel
theorem d41_23 : decode prog_5_method_21_code 23 = .ok (.bipush 11, 2) := by decide +kernel
theorem d41_25 : decode prog_5_method_21_code 25 = .ok (.ishr, 1) := by decide +kernel
theorem d41_26 : decode prog_5_method_21_code 26 = .ok (.ireturn, 1) := by decide +kernel
theorem b41 {X : mj_X} {d : Nat} {w : mj_W} {x0 : Nat} {x1 : Int32} : mj_call X d 41 [.ref x0, .int x1] w = mj_exec X d 41 0 [some (.ref x0), some (.int x1)] [] w := mw_ent mw_m41 (Nat.le_of_ble_eq_true rfl) rfl
theorem b41_0 {X : mj_X} {d : Nat} {s : mw_S} {k0 : Nat} {x1 : Int32} (h0 : mw_cl k0 = some 3) : mj_exec X d 41 0 [some (.ref k0), some (.int x1)] [] (mw_U s) = if x1 < 0 then mj_exec X d 41 10 [some (.ref k0), some (.int x1)] [] (mw_U s) else mj_exec X d 41 4 [some (.ref k0), some (.int x1)] [] (mw_U s) := (mj_q_iload_n mw_m41 d41_0 rfl).trans (mj_q_if_lt mw_m41 d41_1 rfl)
theorem b41_4 {X : mj_X} {d : Nat} {s : mw_S} {k0 : Nat} {x1 : Int32} (h0 : mw_cl k0 = some 3) : mj_exec X d 41 4 [some (.ref k0), some (.int x1)] [] (mw_U s) = if x1 < (nI 28) then mj_exec X d 41 14 [some (.ref k0), some (.int x1)] [] (mw_U s) else mj_exec X d 41 10 [some (.ref k0), some (.int x1)] [] (mw_U s) := (mj_q_iload_n mw_m41 d41_4 rfl).trans ((mj_q_bipush mw_m41 d41_5 mw_k_bipush_28).trans (mj_q_icmp_lt mw_m41 d41_7 rfl))
theorem b41_10 {X : mj_X} {d : Nat} {s : mw_S} {k0 : Nat} {x1 : Int32} (h0 : mw_cl k0 = some 3) : mj_exec X d 41 10 [some (.ref k0), some (.int x1)] [] (mw_U s) = mj_exec X d 41 26 [some (.ref k0), some (.int x1)] [.int (nI 0)] (mw_U s) := (mj_q_iconst mw_m41 d41_10 mw_k_iconst_0).trans (mj_q_goto mw_m41 d41_11 rfl)
theorem b41_14 {X : mj_X} {d : Nat} {s : mw_S} {k0 : Nat} {x1 : Int32} (h0 : mw_cl k0 = some 3) : mj_exec X d 41 14 [some (.ref k0), some (.int x1)] [] (mw_U s) = if mw_in 64 ((nI 24) + x1) = true then mj_exec X d 41 26 [some (.ref k0), some (.int x1)] [.int ((s.1 (k0 + 1) (((nI 24) + x1)).toNatClampNeg) >>> ((nI 11) &&& 31))] (mw_U s) else none := (mj_q_aload_n mw_m41 d41_14 rfl (mw_neo h0)).trans ((mw_q_getr mw_m41 d41_15 mw_p3_11 h0 (mw_f3_0 h0)).trans ((mj_q_bipush mw_m41 d41_18 mw_k_bipush_24).trans ((mj_q_iload_n mw_m41 d41_20 rfl).trans ((mj_q_iadd mw_m41 d41_21).trans ((mw_h_iald mw_m41 d41_22 (mw_a3_0 h0)).trans (mw_g ((mj_q_bipush mw_m41 d41_23 mw_k_bipush_11).trans (mj_q_ishr mw_m41 d41_25))))))))
theorem b41_26 {X : mj_X} {d : Nat} {s : mw_S} {k0 : Nat} {x1 : Int32} {xs0 : Int32} (h0 : mw_cl k0 = some 3) : mj_exec X d 41 26 [some (.ref k0), some (.int x1)] [.int xs0] (mw_U s) = some (.inl (some (.int xs0)), mw_U s) := mj_q_iret mw_m41 d41_26 rfl
/-- WivesQuarrels$Folk.end -/
theorem d42_0 : decode prog_5_method_23_code 0 = .ok (.iload_n 1, 1) := by decide +kernel
theorem d42_1 : decode prog_5_method_23_code 1 = .ok (.ifCond .lt 69, 3) := by decide +kernel
theorem d42_4 : decode prog_5_method_23_code 4 = .ok (.iload_n 1, 1) := by decide +kernel
theorem d42_5 : decode prog_5_method_23_code 5 = .ok (.bipush 28, 2) := by decide +kernel
theorem d42_7 : decode prog_5_method_23_code 7 = .ok (.if_icmp .ge 63, 3) := by decide +kernel
theorem d42_10 : decode prog_5_method_23_code 10 = .ok (.aload_n 0, 1) := by decide +kernel
theorem d42_11 : decode prog_5_method_23_code 11 = .ok (.getfield 11, 3) := by decide +kernel
theorem d42_14 : decode prog_5_method_23_code 14 = .ok (.bipush 24, 2) := by decide +kernel
theorem d42_16 : decode prog_5_method_23_code 16 = .ok (.iload_n 1, 1) := by decide +kernel
theorem d42_17 : decode prog_5_method_23_code 17 = .ok (.iadd, 1) := by decide +kernel
theorem d42_18 : decode prog_5_method_23_code 18 = .ok (.iconst 0, 1) := by decide +kernel
theorem d42_19 : decode prog_5_method_23_code 19 = .ok (.iastore, 1) := by decide +kernel
theorem d42_20 : decode prog_5_method_23_code 20 = .ok (.aload_n 0, 1) := by decide +kernel
theorem d42_21 : decode prog_5_method_23_code 21 = .ok (.getfield 11, 3) := by decide +kernel
theorem d42_24 : decode prog_5_method_23_code 24 = .ok (.bipush 56, 2) := by decide +kernel
theorem d42_26 : decode prog_5_method_23_code 26 = .ok (.getstatic 39, 3) := by decide +kernel
theorem d42_29 : decode prog_5_method_23_code 29 = .ok (.iload_n 1, 1) := by decide +kernel
theorem d42_30 : decode prog_5_method_23_code 30 = .ok (.iaload, 1) := by decide +kernel
theorem d42_31 : decode prog_5_method_23_code 31 = .ok (.iadd, 1) := by decide +kernel
theorem d42_32 : decode prog_5_method_23_code 32 = .ok (.dup2, 1) := by decide +kernel
theorem d42_33 : decode prog_5_method_23_code 33 = .ok (.iaload, 1) := by decide +kernel
theorem d42_34 : decode prog_5_method_23_code 34 = .ok (.iconst 1, 1) := by decide +kernel
theorem d42_35 : decode prog_5_method_23_code 35 = .ok (.getstatic 42, 3) := by decide +kernel
theorem d42_38 : decode prog_5_method_23_code 38 = .ok (.iload_n 1, 1) := by decide +kernel
theorem d42_39 : decode prog_5_method_23_code 39 = .ok (.iaload, 1) := by decide +kernel
theorem d42_40 : decode prog_5_method_23_code 40 = .ok (.ishl, 1) := by decide +kernel
theorem d42_41 : decode prog_5_method_23_code 41 = .ok (.iconst (-1), 1) := by decide +kernel
theorem d42_42 : decode prog_5_method_23_code 42 = .ok (.ixor, 1) := by decide +kernel
theorem d42_43 : decode prog_5_method_23_code 43 = .ok (.iand, 1) := by decide +kernel
theorem d42_44 : decode prog_5_method_23_code 44 = .ok (.iastore, 1) := by decide +kernel
theorem d42_45 : decode prog_5_method_23_code 45 = .ok (.aload_n 0, 1) := by decide +kernel
theorem d42_46 : decode prog_5_method_23_code 46 = .ok (.getfield 11, 3) := by decide +kernel
theorem d42_49 : decode prog_5_method_23_code 49 = .ok (.bipush 56, 2) := by decide +kernel
theorem d42_51 : decode prog_5_method_23_code 51 = .ok (.getstatic 42, 3) := by decide +kernel
theorem d42_54 : decode prog_5_method_23_code 54 = .ok (.iload_n 1, 1) := by decide +kernel
theorem d42_55 : decode prog_5_method_23_code 55 = .ok (.iaload, 1) := by decide +kernel
theorem d42_56 : decode prog_5_method_23_code 56 = .ok (.iadd, 1) := by decide +kernel
theorem d42_57 : decode prog_5_method_23_code 57 = .ok (.dup2, 1) := by decide +kernel
theorem d42_58 : decode prog_5_method_23_code 58 = .ok (.iaload, 1) := by decide +kernel
theorem d42_59 : decode prog_5_method_23_code 59 = .ok (.iconst 1, 1) := by decide +kernel
theorem d42_60 : decode prog_5_method_23_code 60 = .ok (.getstatic 39, 3) := by decide +kernel
theorem d42_63 : decode prog_5_method_23_code 63 = .ok (.iload_n 1, 1) := by decide +kernel
theorem d42_64 : decode prog_5_method_23_code 64 = .ok (.iaload, 1) := by decide +kernel
theorem d42_65 : decode prog_5_method_23_code 65 = .ok (.ishl, 1) := by decide +kernel
theorem d42_66 : decode prog_5_method_23_code 66 = .ok (.iconst (-1), 1) := by decide +kernel
theorem d42_67 : decode prog_5_method_23_code 67 = .ok (.ixor, 1) := by decide +kernel
theorem d42_68 : decode prog_5_method_23_code 68 = .ok (.iand, 1) := by decide +kernel
theorem d42_69 : decode prog_5_method_23_code 69 = .ok (.iastore, 1) := by decide +kernel
theorem d42_70 : decode prog_5_method_23_code 70 = .ok (.return_, 1) := by decide +kernel
theorem b42 {X : mj_X} {d : Nat} {w : mj_W} {x0 : Nat} {x1 : Int32} : mj_call X d 42 [.ref x0, .int x1] w = mj_exec X d 42 0 [some (.ref x0), some (.int x1)] [] w := mw_ent mw_m42 (Nat.le_of_ble_eq_true rfl) rfl
theorem b42_0 {X : mj_X} {d : Nat} {s : mw_S} {k0 : Nat} {x1 : Int32} (h0 : mw_cl k0 = some 3) : mj_exec X d 42 0 [some (.ref k0), some (.int x1)] [] (mw_U s) = if x1 < 0 then mj_exec X d 42 70 [some (.ref k0), some (.int x1)] [] (mw_U s) else mj_exec X d 42 4 [some (.ref k0), some (.int x1)] [] (mw_U s) := (mj_q_iload_n mw_m42 d42_0 rfl).trans (mj_q_if_lt mw_m42 d42_1 rfl)
theorem b42_4 {X : mj_X} {d : Nat} {s : mw_S} {k0 : Nat} {x1 : Int32} (h0 : mw_cl k0 = some 3) : mj_exec X d 42 4 [some (.ref k0), some (.int x1)] [] (mw_U s) = if (nI 28) ≤ x1 then mj_exec X d 42 70 [some (.ref k0), some (.int x1)] [] (mw_U s) else mj_exec X d 42 10 [some (.ref k0), some (.int x1)] [] (mw_U s) := (mj_q_iload_n mw_m42 d42_4 rfl).trans ((mj_q_bipush mw_m42 d42_5 mw_k_bipush_28).trans (mj_q_icmp_ge mw_m42 d42_7 rfl))
theorem b42_10 {X : mj_X} {d : Nat} {s : mw_S} {k0 : Nat} {x1 : Int32} (h0 : mw_cl k0 = some 3) : mj_exec X d 42 10 [some (.ref k0), some (.int x1)] [] (mw_U s) = if mw_in 64 ((nI 24) + x1) = true then if mw_in 28 x1 = true then if mw_in 64 ((nI 56) + (mw_les (x1).toNatClampNeg)) = true then if mw_in 28 x1 = true then if mw_in 64 ((nI 56) + (mw_les (x1).toNatClampNeg)) = true then if mw_in 28 x1 = true then if mw_in 64 ((nI 56) + (mw_gre (x1).toNatClampNeg)) = true then if mw_in 28 x1 = true then if mw_in 64 ((nI 56) + (mw_gre (x1).toNatClampNeg)) = true then mj_exec X d 42 70 [some (.ref k0), some (.int x1)] [] (mw_U (mw_p (mw_p (mw_p s (k0 + 1) (((nI 24) + x1)).toNatClampNeg (nI 0)) (k0 + 1) (((nI 56) + (mw_les (x1).toNatClampNeg))).toNatClampNeg (((mw_p s (k0 + 1) (((nI 24) + x1)).toNatClampNeg (nI 0)).1 (k0 + 1) (((nI 56) + (mw_les (x1).toNatClampNeg))).toNatClampNeg) &&& (((nI 1) <<< ((mw_gre (x1).toNatClampNeg) &&& 31)) ^^^ (-1)))) (k0 + 1) (((nI 56) + (mw_gre (x1).toNatClampNeg))).toNatClampNeg (((mw_p (mw_p s (k0 + 1) (((nI 24) + x1)).toNatClampNeg (nI 0)) (k0 + 1) (((nI 56) + (mw_les (x1).toNatClampNeg))).toNatClampNeg (((mw_p s (k0 + 1) (((nI 24) + x1)).toNatClampNeg (nI 0)).1 (k0 + 1) (((nI 56) + (mw_les (x1).toNatClampNeg))).toNatClampNeg) &&& (((nI 1) <<< ((mw_gre (x1).toNatClampNeg) &&& 31)) ^^^ (-1)))).1 (k0 + 1) (((nI 56) + (mw_gre (x1).toNatClampNeg))).toNatClampNeg) &&& (((nI 1) <<< ((mw_les (x1).toNatClampNeg) &&& 31)) ^^^ (-1))))) else none else none else none else none else none else none else none else none else none := (mj_q_aload_n mw_m42 d42_10 rfl (mw_neo h0)).trans ((mw_q_getr mw_m42 d42_11 mw_p3_11 h0 (mw_f3_0 h0)).trans ((mj_q_bipush mw_m42 d42_14 mw_k_bipush_24).trans ((mj_q_iload_n mw_m42 d42_16 rfl).trans ((mj_q_iadd mw_m42 d42_17).trans ((mj_q_iconst mw_m42 d42_18 mw_k_iconst_0).trans ((mw_h_iast mw_m42 d42_19 (mw_a3_0 h0)).trans (mw_g ((mj_q_aload_n mw_m42 d42_20 rfl (mw_neo h0)).trans ((mw_q_getr mw_m42 d42_21 mw_p3_11 h0 (mw_f3_0 h0)).trans ((mj_q_bipush mw_m42 d42_24 mw_k_bipush_56).trans ((mj_q_getsN mw_m42 d42_26 mw_p3_39).trans ((mj_q_iload_n mw_m42 d42_29 rfl).trans ((mw_h_iakd mw_m42 d42_30 (by decide) (mw_ka0 X)).trans (mw_g ((mj_q_iadd mw_m42 d42_31).trans ((mj_q_dup2 mw_m42 d42_32 rfl rfl).trans ((mw_h_iald mw_m42 d42_33 (mw_a3_0 h0)).trans (mw_g ((mj_q_iconst mw_m42 d42_34 mw_k_iconst_1).trans ((mj_q_getsN mw_m42 d42_35 mw_p3_42).trans ((mj_q_iload_n mw_m42 d42_38 rfl).trans ((mw_h_iakd mw_m42 d42_39 (by decide) (mw_ka1 X)).trans (mw_g ((mj_q_ishl mw_m42 d42_40).trans ((mj_q_iconst mw_m42 d42_41 mw_k_iconst_m1).trans ((mj_q_ixor mw_m42 d42_42).trans ((mj_q_iand mw_m42 d42_43).trans ((mw_h_iast mw_m42 d42_44 (mw_a3_0 h0)).trans (mw_g ((mj_q_aload_n mw_m42 d42_45 rfl (mw_neo h0)).trans ((mw_q_getr mw_m42 d42_46 mw_p3_11 h0 (mw_f3_0 h0)).trans ((mj_q_bipush mw_m42 d42_49 mw_k_bipush_56).trans ((mj_q_getsN mw_m42 d42_51 mw_p3_42).trans ((mj_q_iload_n mw_m42 d42_54 rfl).trans ((mw_h_iakd mw_m42 d42_55 (by decide) (mw_ka1 X)).trans (mw_g ((mj_q_iadd mw_m42 d42_56).trans ((mj_q_dup2 mw_m42 d42_57 rfl rfl).trans ((mw_h_iald mw_m42 d42_58 (mw_a3_0 h0)).trans (mw_g ((mj_q_iconst mw_m42 d42_59 mw_k_iconst_1).trans ((mj_q_getsN mw_m42 d42_60 mw_p3_39).trans ((mj_q_iload_n mw_m42 d42_63 rfl).trans ((mw_h_iakd mw_m42 d42_64 (by decide) (mw_ka0 X)).trans (mw_g ((mj_q_ishl mw_m42 d42_65).trans ((mj_q_iconst mw_m42 d42_66 mw_k_iconst_m1).trans ((mj_q_ixor mw_m42 d42_67).trans ((mj_q_iand mw_m42 d42_68).trans ((mw_h_iast mw_m42 d42_69 (mw_a3_0 h0)).trans (mw_g (rfl))))))))))))))))))))))))))))))))))))))))))))))))))))
theorem b42_70 {X : mj_X} {d : Nat} {s : mw_S} {k0 : Nat} {x1 : Int32} (h0 : mw_cl k0 = some 3) : mj_exec X d 42 70 [some (.ref k0), some (.int x1)] [] (mw_U s) = some (.inl none, mw_U s) := mj_q_vret mw_m42 d42_70 rfl
/-- WivesQuarrels$Folk.setHeat -/
theorem d43_0 : decode prog_5_method_24_code 0 = .ok (.iload_n 1, 1) := by decide +kernel
theorem d43_1 : decode prog_5_method_24_code 1 = .ok (.ifCond .lt 32, 3) := by decide +kernel
theorem d43_4 : decode prog_5_method_24_code 4 = .ok (.iload_n 1, 1) := by decide +kernel
theorem d43_5 : decode prog_5_method_24_code 5 = .ok (.bipush 28, 2) := by decide +kernel
theorem d43_7 : decode prog_5_method_24_code 7 = .ok (.if_icmp .ge 26, 3) := by decide +kernel
theorem d43_10 : decode prog_5_method_24_code 10 = .ok (.aload_n 0, 1) := by decide +kernel
theorem d43_11 : decode prog_5_method_24_code 11 = .ok (.getfield 11, 3) := by decide +kernel
theorem d43_14 : decode prog_5_method_24_code 14 = .ok (.bipush 24, 2) := by decide +kernel
theorem d43_16 : decode prog_5_method_24_code 16 = .ok (.iload_n 1, 1) := by decide +kernel
theorem d43_17 : decode prog_5_method_24_code 17 = .ok (.iadd, 1) := by decide +kernel
theorem d43_18 : decode prog_5_method_24_code 18 = .ok (.aload_n 0, 1) := by decide +kernel
theorem d43_19 : decode prog_5_method_24_code 19 = .ok (.getfield 11, 3) := by decide +kernel
theorem d43_22 : decode prog_5_method_24_code 22 = .ok (.bipush 24, 2) := by decide +kernel
theorem d43_24 : decode prog_5_method_24_code 24 = .ok (.iload_n 1, 1) := by decide +kernel
theorem d43_25 : decode prog_5_method_24_code 25 = .ok (.iadd, 1) := by decide +kernel
theorem d43_26 : decode prog_5_method_24_code 26 = .ok (.iaload, 1) := by decide +kernel
theorem d43_27 : decode prog_5_method_24_code 27 = .ok (.bipush (-128), 2) := by decide +kernel
theorem d43_29 : decode prog_5_method_24_code 29 = .ok (.iand, 1) := by decide +kernel
theorem d43_30 : decode prog_5_method_24_code 30 = .ok (.iload_n 2, 1) := by decide +kernel
theorem d43_31 : decode prog_5_method_24_code 31 = .ok (.ior, 1) := by decide +kernel
theorem d43_32 : decode prog_5_method_24_code 32 = .ok (.iastore, 1) := by decide +kernel
theorem d43_33 : decode prog_5_method_24_code 33 = .ok (.return_, 1) := by decide +kernel
theorem b43 {X : mj_X} {d : Nat} {w : mj_W} {x0 : Nat} {x1 : Int32} {x2 : Int32} : mj_call X d 43 [.ref x0, .int x1, .int x2] w = mj_exec X d 43 0 [some (.ref x0), some (.int x1), some (.int x2)] [] w := mw_ent mw_m43 (Nat.le_of_ble_eq_true rfl) rfl
theorem b43_0 {X : mj_X} {d : Nat} {s : mw_S} {k0 : Nat} {x1 : Int32} {x2 : Int32} (h0 : mw_cl k0 = some 3) : mj_exec X d 43 0 [some (.ref k0), some (.int x1), some (.int x2)] [] (mw_U s) = if x1 < 0 then mj_exec X d 43 33 [some (.ref k0), some (.int x1), some (.int x2)] [] (mw_U s) else mj_exec X d 43 4 [some (.ref k0), some (.int x1), some (.int x2)] [] (mw_U s) := (mj_q_iload_n mw_m43 d43_0 rfl).trans (mj_q_if_lt mw_m43 d43_1 rfl)
theorem b43_4 {X : mj_X} {d : Nat} {s : mw_S} {k0 : Nat} {x1 : Int32} {x2 : Int32} (h0 : mw_cl k0 = some 3) : mj_exec X d 43 4 [some (.ref k0), some (.int x1), some (.int x2)] [] (mw_U s) = if (nI 28) ≤ x1 then mj_exec X d 43 33 [some (.ref k0), some (.int x1), some (.int x2)] [] (mw_U s) else mj_exec X d 43 10 [some (.ref k0), some (.int x1), some (.int x2)] [] (mw_U s) := (mj_q_iload_n mw_m43 d43_4 rfl).trans ((mj_q_bipush mw_m43 d43_5 mw_k_bipush_28).trans (mj_q_icmp_ge mw_m43 d43_7 rfl))
theorem b43_10 {X : mj_X} {d : Nat} {s : mw_S} {k0 : Nat} {x1 : Int32} {x2 : Int32} (h0 : mw_cl k0 = some 3) : mj_exec X d 43 10 [some (.ref k0), some (.int x1), some (.int x2)] [] (mw_U s) = if mw_in 64 ((nI 24) + x1) = true then if mw_in 64 ((nI 24) + x1) = true then mj_exec X d 43 33 [some (.ref k0), some (.int x1), some (.int x2)] [] (mw_U (mw_p s (k0 + 1) (((nI 24) + x1)).toNatClampNeg (((s.1 (k0 + 1) (((nI 24) + x1)).toNatClampNeg) &&& (-128)) ||| x2))) else none else none := (mj_q_aload_n mw_m43 d43_10 rfl (mw_neo h0)).trans ((mw_q_getr mw_m43 d43_11 mw_p3_11 h0 (mw_f3_0 h0)).trans ((mj_q_bipush mw_m43 d43_14 mw_k_bipush_24).trans ((mj_q_iload_n mw_m43 d43_16 rfl).trans ((mj_q_iadd mw_m43 d43_17).trans ((mj_q_aload_n mw_m43 d43_18 rfl (mw_neo h0)).trans ((mw_q_getr mw_m43 d43_19 mw_p3_11 h0 (mw_f3_0 h0)).trans ((mj_q_bipush mw_m43 d43_22 mw_k_bipush_24).trans ((mj_q_iload_n mw_m43 d43_24 rfl).trans ((mj_q_iadd mw_m43 d43_25).trans ((mw_h_iald mw_m43 d43_26 (mw_a3_0 h0)).trans (mw_g ((mj_q_bipush mw_m43 d43_27 mw_k_bipush_m128).trans ((mj_q_iand mw_m43 d43_29).trans ((mj_q_iload_n mw_m43 d43_30 rfl).trans ((mj_q_ior mw_m43 d43_31).trans ((mw_h_iast mw_m43 d43_32 (mw_a3_0 h0)).trans (mw_g (rfl))))))))))))))))))
theorem b43_33 {X : mj_X} {d : Nat} {s : mw_S} {k0 : Nat} {x1 : Int32} {x2 : Int32} (h0 : mw_cl k0 = some 3) : mj_exec X d 43 33 [some (.ref k0), some (.int x1), some (.int x2)] [] (mw_U s) = some (.inl none, mw_U s) := mj_q_vret mw_m43 d43_33 rfl
/-- WivesQuarrels$Folk.addCut -/
theorem d44_0 : decode prog_5_method_25_code 0 = .ok (.iload_n 1, 1) := by decide +kernel
theorem d44_1 : decode prog_5_method_25_code 1 = .ok (.ifCond .lt 34, 3) := by decide +kernel
theorem d44_4 : decode prog_5_method_25_code 4 = .ok (.iload_n 1, 1) := by decide +kernel
theorem d44_5 : decode prog_5_method_25_code 5 = .ok (.bipush 28, 2) := by decide +kernel
theorem d44_7 : decode prog_5_method_25_code 7 = .ok (.if_icmp .ge 28, 3) := by decide +kernel
theorem d44_10 : decode prog_5_method_25_code 10 = .ok (.aload_n 0, 1) := by decide +kernel
theorem d44_11 : decode prog_5_method_25_code 11 = .ok (.iload_n 1, 1) := by decide +kernel
theorem d44_12 : decode prog_5_method_25_code 12 = .ok (.invokevirtual 45, 3) := by decide +kernel
theorem d44_15 : decode prog_5_method_25_code 15 = .ok (.bipush 99, 2) := by decide +kernel
theorem d44_17 : decode prog_5_method_25_code 17 = .ok (.if_icmp .ge 18, 3) := by decide +kernel
theorem d44_20 : decode prog_5_method_25_code 20 = .ok (.aload_n 0, 1) := by decide +kernel
theorem d44_21 : decode prog_5_method_25_code 21 = .ok (.getfield 11, 3) := by decide +kernel
theorem d44_24 : decode prog_5_method_25_code 24 = .ok (.bipush 24, 2) := by decide +kernel
theorem d44_26 : decode prog_5_method_25_code 26 = .ok (.iload_n 1, 1) := by decide +kernel
theorem d44_27 : decode prog_5_method_25_code 27 = .ok (.iadd, 1) := by decide +kernel
theorem d44_28 : decode prog_5_method_25_code 28 = .ok (.dup2, 1) := by decide +kernel
theorem d44_29 : decode prog_5_method_25_code 29 = .ok (.iaload, 1) := by decide +kernel
theorem d44_30 : decode prog_5_method_25_code 30 = .ok (.sipush 2048, 3) := by decide +kernel
theorem d44_33 : decode prog_5_method_25_code 33 = .ok (.iadd, 1) := by decide +kernel
theorem d44_34 : decode prog_5_method_25_code 34 = .ok (.iastore, 1) := by decide +kernel
theorem d44_35 : decode prog_5_method_25_code 35 = .ok (.return_, 1) := by decide +kernel
theorem b44 {X : mj_X} {d : Nat} {w : mj_W} {x0 : Nat} {x1 : Int32} : mj_call X d 44 [.ref x0, .int x1] w = mj_exec X d 44 0 [some (.ref x0), some (.int x1)] [] w := mw_ent mw_m44 (Nat.le_of_ble_eq_true rfl) rfl
theorem b44_0 {X : mj_X} {d : Nat} {s : mw_S} {k0 : Nat} {x1 : Int32} (h0 : mw_cl k0 = some 3) : mj_exec X d 44 0 [some (.ref k0), some (.int x1)] [] (mw_U s) = if x1 < 0 then mj_exec X d 44 35 [some (.ref k0), some (.int x1)] [] (mw_U s) else mj_exec X d 44 4 [some (.ref k0), some (.int x1)] [] (mw_U s) := (mj_q_iload_n mw_m44 d44_0 rfl).trans (mj_q_if_lt mw_m44 d44_1 rfl)
theorem b44_4 {X : mj_X} {d : Nat} {s : mw_S} {k0 : Nat} {x1 : Int32} (h0 : mw_cl k0 = some 3) : mj_exec X d 44 4 [some (.ref k0), some (.int x1)] [] (mw_U s) = if (nI 28) ≤ x1 then mj_exec X d 44 35 [some (.ref k0), some (.int x1)] [] (mw_U s) else mj_exec X d 44 10 [some (.ref k0), some (.int x1)] [] (mw_U s) := (mj_q_iload_n mw_m44 d44_4 rfl).trans ((mj_q_bipush mw_m44 d44_5 mw_k_bipush_28).trans (mj_q_icmp_ge mw_m44 d44_7 rfl))
theorem b44_10 {X : mj_X} {d : Nat} {s : mw_S} {k0 : Nat} {x1 : Int32} (h0 : mw_cl k0 = some 3) : mj_exec X (d + 1) 44 10 [some (.ref k0), some (.int x1)] [] (mw_U s) = (mj_call X d 41 [.ref k0, .int x1] (mw_U s)).bind (mj_bk X (d + 1) 44 15 [some (.ref k0), some (.int x1)] []) := (mj_q_aload_n mw_m44 d44_10 rfl (mw_neo h0)).trans ((mj_q_iload_n mw_m44 d44_11 rfl).trans (mw_q_callv mw_m44 rfl d44_12 mw_p3_45 mw_m41 rfl rfl (Nat.le_of_ble_eq_true rfl) (Nat.le_of_ble_eq_true rfl) rfl (mw_rcv h0) rfl rfl))
theorem b44_15 {X : mj_X} {d : Nat} {s : mw_S} {k0 : Nat} {x1 : Int32} {xs0 : Int32} (h0 : mw_cl k0 = some 3) : mj_exec X d 44 15 [some (.ref k0), some (.int x1)] [.int xs0] (mw_U s) = if (nI 99) ≤ xs0 then mj_exec X d 44 35 [some (.ref k0), some (.int x1)] [] (mw_U s) else mj_exec X d 44 20 [some (.ref k0), some (.int x1)] [] (mw_U s) := (mj_q_bipush mw_m44 d44_15 mw_k_bipush_99).trans (mj_q_icmp_ge mw_m44 d44_17 rfl)
theorem b44_20 {X : mj_X} {d : Nat} {s : mw_S} {k0 : Nat} {x1 : Int32} (h0 : mw_cl k0 = some 3) : mj_exec X d 44 20 [some (.ref k0), some (.int x1)] [] (mw_U s) = if mw_in 64 ((nI 24) + x1) = true then if mw_in 64 ((nI 24) + x1) = true then mj_exec X d 44 35 [some (.ref k0), some (.int x1)] [] (mw_U (mw_p s (k0 + 1) (((nI 24) + x1)).toNatClampNeg ((s.1 (k0 + 1) (((nI 24) + x1)).toNatClampNeg) + (nI 2048)))) else none else none := (mj_q_aload_n mw_m44 d44_20 rfl (mw_neo h0)).trans ((mw_q_getr mw_m44 d44_21 mw_p3_11 h0 (mw_f3_0 h0)).trans ((mj_q_bipush mw_m44 d44_24 mw_k_bipush_24).trans ((mj_q_iload_n mw_m44 d44_26 rfl).trans ((mj_q_iadd mw_m44 d44_27).trans ((mj_q_dup2 mw_m44 d44_28 rfl rfl).trans ((mw_h_iald mw_m44 d44_29 (mw_a3_0 h0)).trans (mw_g ((mj_q_sipush mw_m44 d44_30 mw_k_sipush_2048).trans ((mj_q_iadd mw_m44 d44_33).trans ((mw_h_iast mw_m44 d44_34 (mw_a3_0 h0)).trans (mw_g (rfl))))))))))))
theorem b44_35 {X : mj_X} {d : Nat} {s : mw_S} {k0 : Nat} {x1 : Int32} (h0 : mw_cl k0 = some 3) : mj_exec X d 44 35 [some (.ref k0), some (.int x1)] [] (mw_U s) = some (.inl none, mw_U s) := mj_q_vret mw_m44 d44_35 rfl
/-- WivesQuarrels$Folk.endWeek -/
theorem d45_0 : decode prog_5_method_10_code 0 = .ok (.aload_n 0, 1) := by decide +kernel
theorem d45_1 : decode prog_5_method_10_code 1 = .ok (.getfield 11, 3) := by decide +kernel
theorem d45_4 : decode prog_5_method_10_code 4 = .ok (.bipush 54, 2) := by decide +kernel
theorem d45_6 : decode prog_5_method_10_code 6 = .ok (.dup2, 1) := by decide +kernel
theorem d45_7 : decode prog_5_method_10_code 7 = .ok (.iaload, 1) := by decide +kernel
theorem d45_8 : decode prog_5_method_10_code 8 = .ok (.iconst 1, 1) := by decide +kernel
theorem d45_9 : decode prog_5_method_10_code 9 = .ok (.iadd, 1) := by decide +kernel
theorem d45_10 : decode prog_5_method_10_code 10 = .ok (.iastore, 1) := by decide +kernel
theorem d45_11 : decode prog_5_method_10_code 11 = .ok (.return_, 1) := by decide +kernel
theorem b45 {X : mj_X} {d : Nat} {w : mj_W} {x0 : Nat} : mj_call X d 45 [.ref x0] w = mj_exec X d 45 0 [some (.ref x0)] [] w := mw_ent mw_m45 (Nat.le_of_ble_eq_true rfl) rfl
theorem b45_0 {X : mj_X} {d : Nat} {s : mw_S} {k0 : Nat} (h0 : mw_cl k0 = some 3) : mj_exec X d 45 0 [some (.ref k0)] [] (mw_U s) = if mw_in 64 (nI 54) = true then if mw_in 64 (nI 54) = true then some (.inl none, mw_U (mw_p s (k0 + 1) ((nI 54)).toNatClampNeg ((s.1 (k0 + 1) ((nI 54)).toNatClampNeg) + (nI 1)))) else none else none := (mj_q_aload_n mw_m45 d45_0 rfl (mw_neo h0)).trans ((mw_q_getr mw_m45 d45_1 mw_p3_11 h0 (mw_f3_0 h0)).trans ((mj_q_bipush mw_m45 d45_4 mw_k_bipush_54).trans ((mj_q_dup2 mw_m45 d45_6 rfl rfl).trans ((mw_h_iald mw_m45 d45_7 (mw_a3_0 h0)).trans (mw_g ((mj_q_iconst mw_m45 d45_8 mw_k_iconst_1).trans ((mj_q_iadd mw_m45 d45_9).trans ((mw_h_iast mw_m45 d45_10 (mw_a3_0 h0)).trans (mw_g (mj_q_vret mw_m45 d45_11 rfl))))))))))
/-- WivesQuarrels$Folk.loadFrom -/
theorem d46_0 : decode prog_5_method_5_code 0 = .ok (.iload_n 2, 1) := by decide +kernel
theorem d46_1 : decode prog_5_method_5_code 1 = .ok (.ifCond .lt 29, 3) := by decide +kernel
theorem d46_4 : decode prog_5_method_5_code 4 = .ok (.iload_n 2, 1) := by decide +kernel
theorem d46_5 : decode prog_5_method_5_code 5 = .ok (.iconst 1, 1) := by decide +kernel
theorem d46_6 : decode prog_5_method_5_code 6 = .ok (.iadd, 1) := by decide +kernel
theorem d46_7 : decode prog_5_method_5_code 7 = .ok (.bipush 64, 2) := by decide +kernel
theorem d46_9 : decode prog_5_method_5_code 9 = .ok (.imul, 1) := by decide +kernel
theorem d46_10 : decode prog_5_method_5_code 10 = .ok (.aload_n 1, 1) := by decide +kernel
theorem d46_11 : decode prog_5_method_5_code 11 = .ok (.arraylength, 1) := by decide +kernel
theorem d46_12 : decode prog_5_method_5_code 12 = .ok (.if_icmp .gt 18, 3) := by decide +kernel
theorem d46_15 : decode prog_5_method_5_code 15 = .ok (.aload_n 1, 1) := by decide +kernel
theorem d46_16 : decode prog_5_method_5_code 16 = .ok (.iload_n 2, 1) := by decide +kernel
theorem d46_17 : decode prog_5_method_5_code 17 = .ok (.bipush 64, 2) := by decide +kernel
theorem d46_19 : decode prog_5_method_5_code 19 = .ok (.imul, 1) := by decide +kernel
theorem d46_20 : decode prog_5_method_5_code 20 = .ok (.aload_n 0, 1) := by decide +kernel
theorem d46_21 : decode prog_5_method_5_code 21 = .ok (.getfield 11, 3) := by decide +kernel
theorem d46_24 : decode prog_5_method_5_code 24 = .ok (.iconst 0, 1) := by decide +kernel
theorem d46_25 : decode prog_5_method_5_code 25 = .ok (.bipush 64, 2) := by decide +kernel
theorem d46_27 : decode prog_5_method_5_code 27 = .ok (.invokestatic 21, 3) := by decide +kernel
theorem d46_30 : decode prog_5_method_5_code 30 = .ok (.return_, 1) := by decide +kernel
theorem b46 {X : mj_X} {d : Nat} {w : mj_W} {x0 : Nat} {x1 : Nat} {x2 : Int32} : mj_call X d 46 [.ref x0, .ref x1, .int x2] w = mj_exec X d 46 0 [some (.ref x0), some (.ref x1), some (.int x2)] [] w := mw_ent mw_m46 (Nat.le_of_ble_eq_true rfl) rfl
theorem b46_0 {X : mj_X} {d : Nat} {s : mw_S} {k0 : Nat} {k1 : Nat} {n1 : Nat} {x2 : Int32} (h0 : mw_cl k0 = some 3) (h1 : mw_rw k1 = some (.int, n1)) : mj_exec X d 46 0 [some (.ref k0), some (.ref k1), some (.int x2)] [] (mw_U s) = if x2 < 0 then mj_exec X d 46 30 [some (.ref k0), some (.ref k1), some (.int x2)] [] (mw_U s) else mj_exec X d 46 4 [some (.ref k0), some (.ref k1), some (.int x2)] [] (mw_U s) := (mj_q_iload_n mw_m46 d46_0 rfl).trans (mj_q_if_lt mw_m46 d46_1 rfl)
theorem b46_4 {X : mj_X} {d : Nat} {s : mw_S} {k0 : Nat} {k1 : Nat} {n1 : Nat} {x2 : Int32} (h0 : mw_cl k0 = some 3) (h1 : mw_rw k1 = some (.int, n1)) : mj_exec X d 46 4 [some (.ref k0), some (.ref k1), some (.int x2)] [] (mw_U s) = if (nI n1) < ((x2 + (nI 1)) * (nI 64)) then mj_exec X d 46 30 [some (.ref k0), some (.ref k1), some (.int x2)] [] (mw_U s) else mj_exec X d 46 15 [some (.ref k0), some (.ref k1), some (.int x2)] [] (mw_U s) := (mj_q_iload_n mw_m46 d46_4 rfl).trans ((mj_q_iconst mw_m46 d46_5 mw_k_iconst_1).trans ((mj_q_iadd mw_m46 d46_6).trans ((mj_q_bipush mw_m46 d46_7 mw_k_bipush_64).trans ((mj_q_imul mw_m46 d46_9).trans ((mj_q_aload_n mw_m46 d46_10 rfl (mw_nea h1)).trans ((mw_q_alen mw_m46 d46_11 h1).trans (mj_q_icmp_gt mw_m46 d46_12 rfl)))))))
theorem b46_15 {X : mj_X} {d : Nat} {s : mw_S} {k0 : Nat} {k1 : Nat} {n1 : Nat} {x2 : Int32} (h0 : mw_cl k0 = some 3) (h1 : mw_rw k1 = some (.int, n1)) : mj_exec X d 46 15 [some (.ref k0), some (.ref k1), some (.int x2)] [] (mw_U s) = if mw_cp n1 64 (x2 * (nI 64)) (nI 0) (nI 64) = true then mj_exec X d 46 30 [some (.ref k0), some (.ref k1), some (.int x2)] [] (mw_U (mw_c s k1 (k0 + 1) ((x2 * (nI 64))).toNatClampNeg ((nI 0)).toNatClampNeg ((nI 64)).toNatClampNeg)) else none := (mj_q_aload_n mw_m46 d46_15 rfl (mw_nea h1)).trans ((mj_q_iload_n mw_m46 d46_16 rfl).trans ((mj_q_bipush mw_m46 d46_17 mw_k_bipush_64).trans ((mj_q_imul mw_m46 d46_19).trans ((mj_q_aload_n mw_m46 d46_20 rfl (mw_neo h0)).trans ((mw_q_getr mw_m46 d46_21 mw_p3_11 h0 (mw_f3_0 h0)).trans ((mj_q_iconst mw_m46 d46_24 mw_k_iconst_0).trans ((mj_q_bipush mw_m46 d46_25 mw_k_bipush_64).trans ((mw_h_copy mw_m46 d46_27 mw_p3_21 h1 (mw_a3_0 h0) (Nat.le_of_ble_eq_true rfl)).trans (mw_g (rfl))))))))))
theorem b46_30 {X : mj_X} {d : Nat} {s : mw_S} {k0 : Nat} {k1 : Nat} {n1 : Nat} {x2 : Int32} (h0 : mw_cl k0 = some 3) (h1 : mw_rw k1 = some (.int, n1)) : mj_exec X d 46 30 [some (.ref k0), some (.ref k1), some (.int x2)] [] (mw_U s) = some (.inl none, mw_U s) := mj_q_vret mw_m46 d46_30 rfl
/-- WivesQuarrels$Folk.copyFrom -/
theorem d47_0 : decode prog_5_method_3_code 0 = .ok (.aload_n 1, 1) := by decide +kernel
theorem d47_1 : decode prog_5_method_3_code 1 = .ok (.getfield 11, 3) := by decide +kernel
theorem d47_4 : decode prog_5_method_3_code 4 = .ok (.iconst 0, 1) := by decide +kernel
theorem d47_5 : decode prog_5_method_3_code 5 = .ok (.aload_n 0, 1) := by decide +kernel
theorem d47_6 : decode prog_5_method_3_code 6 = .ok (.getfield 11, 3) := by decide +kernel
theorem d47_9 : decode prog_5_method_3_code 9 = .ok (.iconst 0, 1) := by decide +kernel
theorem d47_10 : decode prog_5_method_3_code 10 = .ok (.bipush 64, 2) := by decide +kernel
theorem d47_12 : decode prog_5_method_3_code 12 = .ok (.invokestatic 21, 3) := by decide +kernel
theorem d47_15 : decode prog_5_method_3_code 15 = .ok (.return_, 1) := by decide +kernel
theorem b47 {X : mj_X} {d : Nat} {w : mj_W} {x0 : Nat} {x1 : Nat} : mj_call X d 47 [.ref x0, .ref x1] w = mj_exec X d 47 0 [some (.ref x0), some (.ref x1)] [] w := mw_ent mw_m47 (Nat.le_of_ble_eq_true rfl) rfl
theorem b47_0 {X : mj_X} {d : Nat} {s : mw_S} {k0 : Nat} {k1 : Nat} (h0 : mw_cl k0 = some 3) (h1 : mw_cl k1 = some 3) : mj_exec X d 47 0 [some (.ref k0), some (.ref k1)] [] (mw_U s) = if mw_cp 64 64 (nI 0) (nI 0) (nI 64) = true then some (.inl none, mw_U (mw_c s (k1 + 1) (k0 + 1) ((nI 0)).toNatClampNeg ((nI 0)).toNatClampNeg ((nI 64)).toNatClampNeg)) else none := (mj_q_aload_n mw_m47 d47_0 rfl (mw_neo h1)).trans ((mw_q_getr mw_m47 d47_1 mw_p3_11 h1 (mw_f3_0 h1)).trans ((mj_q_iconst mw_m47 d47_4 mw_k_iconst_0).trans ((mj_q_aload_n mw_m47 d47_5 rfl (mw_neo h0)).trans ((mw_q_getr mw_m47 d47_6 mw_p3_11 h0 (mw_f3_0 h0)).trans ((mj_q_iconst mw_m47 d47_9 mw_k_iconst_0).trans ((mj_q_bipush mw_m47 d47_10 mw_k_bipush_64).trans ((mw_h_copy mw_m47 d47_12 mw_p3_21 (mw_a3_0 h1) (mw_a3_0 h0) (Nat.le_of_ble_eq_true rfl)).trans (mw_g (mj_q_vret mw_m47 d47_15 rfl)))))))))
/-- WivesQuarrels$Folk.quarrels -/
theorem d48_0 : decode prog_5_method_28_code 0 = .ok (.iconst 0, 1) := by decide +kernel
theorem d48_1 : decode prog_5_method_28_code 1 = .ok (.istore_n 1, 1) := by decide +kernel
theorem d48_2 : decode prog_5_method_28_code 2 = .ok (.iconst 0, 1) := by decide +kernel
theorem d48_3 : decode prog_5_method_28_code 3 = .ok (.istore_n 2, 1) := by decide +kernel
theorem d48_4 : decode prog_5_method_28_code 4 = .ok (.iload_n 2, 1) := by decide +kernel
theorem d48_5 : decode prog_5_method_28_code 5 = .ok (.bipush 28, 2) := by decide +kernel
theorem d48_7 : decode prog_5_method_28_code 7 = .ok (.if_icmp .ge 24, 3) := by decide +kernel
theorem d48_10 : decode prog_5_method_28_code 10 = .ok (.aload_n 0, 1) := by decide +kernel
theorem d48_11 : decode prog_5_method_28_code 11 = .ok (.getfield 11, 3) := by decide +kernel
theorem d48_14 : decode prog_5_method_28_code 14 = .ok (.bipush 24, 2) := by decide +kernel
theorem d48_16 : decode prog_5_method_28_code 16 = .ok (.iload_n 2, 1) := by decide +kernel
theorem d48_17 : decode prog_5_method_28_code 17 = .ok (.iadd, 1) := by decide +kernel
theorem d48_18 : decode prog_5_method_28_code 18 = .ok (.iaload, 1) := by decide +kernel
theorem d48_19 : decode prog_5_method_28_code 19 = .ok (.ifCond .eq 6, 3) := by decide +kernel
theorem d48_22 : decode prog_5_method_28_code 22 = .ok (.iinc 1 1, 3) := by decide +kernel
theorem d48_25 : decode prog_5_method_28_code 25 = .ok (.iinc 2 1, 3) := by decide +kernel
theorem d48_28 : decode prog_5_method_28_code 28 = .ok (.goto (-24), 3) := by decide +kernel
theorem d48_31 : decode prog_5_method_28_code 31 = .ok (.iload_n 1, 1) := by decide +kernel
theorem d48_32 : decode prog_5_method_28_code 32 = .ok (.ireturn, 1) := by decide +kernel
theorem b48 {X : mj_X} {d : Nat} {w : mj_W} {x0 : Nat} : mj_call X d 48 [.ref x0] w = mj_exec X d 48 0 [some (.ref x0), none, none] [] w := mw_ent mw_m48 (Nat.le_of_ble_eq_true rfl) rfl
theorem b48_0 {X : mj_X} {d : Nat} {s : mw_S} {k0 : Nat} {l1 : Option Value} {l2 : Option Value} (h0 : mw_cl k0 = some 3) : mj_exec X d 48 0 [some (.ref k0), l1, l2] [] (mw_U s) = mj_exec X d 48 4 [some (.ref k0), some (.int (nI 0)), some (.int (nI 0))] [] (mw_U s) := (mj_q_iconst mw_m48 d48_0 mw_k_iconst_0).trans ((mj_q_istore_n mw_m48 d48_1 (Nat.le_of_ble_eq_true rfl) rfl rfl).trans ((mj_q_iconst mw_m48 d48_2 mw_k_iconst_0).trans (mj_q_istore_n mw_m48 d48_3 (Nat.le_of_ble_eq_true rfl) rfl rfl)))
theorem b48_4 {X : mj_X} {d : Nat} {s : mw_S} {k0 : Nat} {x1 : Int32} {x2 : Int32} (h0 : mw_cl k0 = some 3) : mj_exec X d 48 4 [some (.ref k0), some (.int x1), some (.int x2)] [] (mw_U s) = if (nI 28) ≤ x2 then mj_exec X d 48 31 [some (.ref k0), some (.int x1), some (.int x2)] [] (mw_U s) else mj_exec X d 48 10 [some (.ref k0), some (.int x1), some (.int x2)] [] (mw_U s) := (mj_q_iload_n mw_m48 d48_4 rfl).trans ((mj_q_bipush mw_m48 d48_5 mw_k_bipush_28).trans (mj_q_icmp_ge mw_m48 d48_7 rfl))
theorem b48_10 {X : mj_X} {d : Nat} {s : mw_S} {k0 : Nat} {x1 : Int32} {x2 : Int32} (h0 : mw_cl k0 = some 3) : mj_exec X d 48 10 [some (.ref k0), some (.int x1), some (.int x2)] [] (mw_U s) = if mw_in 64 ((nI 24) + x2) = true then if (s.1 (k0 + 1) (((nI 24) + x2)).toNatClampNeg) = 0 then mj_exec X d 48 25 [some (.ref k0), some (.int x1), some (.int x2)] [] (mw_U s) else mj_exec X d 48 22 [some (.ref k0), some (.int x1), some (.int x2)] [] (mw_U s) else none := (mj_q_aload_n mw_m48 d48_10 rfl (mw_neo h0)).trans ((mw_q_getr mw_m48 d48_11 mw_p3_11 h0 (mw_f3_0 h0)).trans ((mj_q_bipush mw_m48 d48_14 mw_k_bipush_24).trans ((mj_q_iload_n mw_m48 d48_16 rfl).trans ((mj_q_iadd mw_m48 d48_17).trans ((mw_h_iald mw_m48 d48_18 (mw_a3_0 h0)).trans (mw_g (mj_q_if_eq mw_m48 d48_19 rfl)))))))
theorem b48_22 {X : mj_X} {d : Nat} {s : mw_S} {k0 : Nat} {x1 : Int32} {x2 : Int32} (h0 : mw_cl k0 = some 3) : mj_exec X d 48 22 [some (.ref k0), some (.int x1), some (.int x2)] [] (mw_U s) = mj_exec X d 48 25 [some (.ref k0), some (.int (x1 + (nI 1))), some (.int x2)] [] (mw_U s) := mj_q_iinc mw_m48 d48_22 rfl (Nat.le_of_ble_eq_true rfl) rfl mw_k_iconst_1 rfl
theorem b48_25 {X : mj_X} {d : Nat} {s : mw_S} {k0 : Nat} {x1 : Int32} {x2 : Int32} (h0 : mw_cl k0 = some 3) : mj_exec X d 48 25 [some (.ref k0), some (.int x1), some (.int x2)] [] (mw_U s) = mj_exec X d 48 4 [some (.ref k0), some (.int x1), some (.int (x2 + (nI 1)))] [] (mw_U s) := (mj_q_iinc mw_m48 d48_25 rfl (Nat.le_of_ble_eq_true rfl) rfl mw_k_iconst_1 rfl).trans (mj_q_goto mw_m48 d48_28 rfl)
theorem b48_31 {X : mj_X} {d : Nat} {s : mw_S} {k0 : Nat} {x1 : Int32} {x2 : Int32} (h0 : mw_cl k0 = some 3) : mj_exec X d 48 31 [some (.ref k0), some (.int x1), some (.int x2)] [] (mw_U s) = some (.inl (some (.int x1)), mw_U s) := (mj_q_iload_n mw_m48 d48_31 rfl).trans (mj_q_iret mw_m48 d48_32 rfl)
/-- WivesQuarrels$Folk.living -/
theorem d49_0 : decode prog_5_method_8_code 0 = .ok (.aload_n 0, 1) := by decide +kernel
theorem d49_1 : decode prog_5_method_8_code 1 = .ok (.getfield 11, 3) := by decide +kernel
theorem d49_4 : decode prog_5_method_8_code 4 = .ok (.bipush 52, 2) := by decide +kernel
theorem d49_6 : decode prog_5_method_8_code 6 = .ok (.iaload, 1) := by decide +kernel
theorem d49_7 : decode prog_5_method_8_code 7 = .ok (.ireturn, 1) := by decide +kernel
theorem b49 {X : mj_X} {d : Nat} {w : mj_W} {x0 : Nat} : mj_call X d 49 [.ref x0] w = mj_exec X d 49 0 [some (.ref x0)] [] w := mw_ent mw_m49 (Nat.le_of_ble_eq_true rfl) rfl
theorem b49_0 {X : mj_X} {d : Nat} {s : mw_S} {k0 : Nat} (h0 : mw_cl k0 = some 3) : mj_exec X d 49 0 [some (.ref k0)] [] (mw_U s) = if mw_in 64 (nI 52) = true then some (.inl (some (.int (s.1 (k0 + 1) ((nI 52)).toNatClampNeg))), mw_U s) else none := (mj_q_aload_n mw_m49 d49_0 rfl (mw_neo h0)).trans ((mw_q_getr mw_m49 d49_1 mw_p3_11 h0 (mw_f3_0 h0)).trans ((mj_q_bipush mw_m49 d49_4 mw_k_bipush_52).trans ((mw_h_iald mw_m49 d49_6 (mw_a3_0 h0)).trans (mw_g (mj_q_iret mw_m49 d49_7 rfl)))))
/-- WivesQuarrels$Folk.fewestDrawers -/
theorem d50_0 : decode prog_5_method_33_code 0 = .ok (.aload_n 0, 1) := by decide +kernel
theorem d50_1 : decode prog_5_method_33_code 1 = .ok (.invokevirtual 61, 3) := by decide +kernel
theorem d50_4 : decode prog_5_method_33_code 4 = .ok (.istore_n 1, 1) := by decide +kernel
theorem d50_5 : decode prog_5_method_33_code 5 = .ok (.iconst (-1), 1) := by decide +kernel
theorem d50_6 : decode prog_5_method_33_code 6 = .ok (.istore_n 2, 1) := by decide +kernel
theorem d50_7 : decode prog_5_method_33_code 7 = .ok (.iconst 0, 1) := by decide +kernel
theorem d50_8 : decode prog_5_method_33_code 8 = .ok (.istore_n 3, 1) := by decide +kernel
theorem d50_9 : decode prog_5_method_33_code 9 = .ok (.iload_n 3, 1) := by decide +kernel
theorem d50_10 : decode prog_5_method_33_code 10 = .ok (.sipush 255, 3) := by decide +kernel
theorem d50_13 : decode prog_5_method_33_code 13 = .ok (.if_icmp .gt 77, 3) := by decide +kernel
theorem d50_16 : decode prog_5_method_33_code 16 = .ok (.iload_n 3, 1) := by decide +kernel
theorem d50_17 : decode prog_5_method_33_code 17 = .ok (.aload_n 0, 1) := by decide +kernel
theorem d50_18 : decode prog_5_method_33_code 18 = .ok (.getfield 11, 3) := by decide +kernel
theorem d50_21 : decode prog_5_method_33_code 21 = .ok (.bipush 52, 2) := by decide +kernel
theorem d50_23 : decode prog_5_method_33_code 23 = .ok (.iaload, 1) := by decide +kernel
theorem d50_24 : decode prog_5_method_33_code 24 = .ok (.iconst (-1), 1) := by decide +kernel
theorem d50_25 : decode prog_5_method_33_code 25 = .ok (.ixor, 1) := by decide +kernel
theorem d50_26 : decode prog_5_method_33_code 26 = .ok (.iand, 1) := by decide +kernel
theorem d50_27 : decode prog_5_method_33_code 27 = .ok (.ifCond .ne 7, 3) := by decide +kernel
theorem d50_30 : decode prog_5_method_33_code 30 = .ok (.iconst 1, 1) := by decide +kernel
theorem d50_31 : decode prog_5_method_33_code 31 = .ok (.goto 4, 3) := by decide +kernel
theorem d50_34 : decode prog_5_method_33_code 34 = .ok (.iconst 0, 1) := by decide +kernel
theorem d50_35 : decode prog_5_method_33_code 35 = .ok (.istore 4, 2) := by decide +kernel
theorem d50_37 : decode prog_5_method_33_code 37 = .ok (.iload_n 2, 1) := by decide +kernel
theorem d50_38 : decode prog_5_method_33_code 38 = .ok (.iconst (-1), 1) := by decide +kernel
theorem d50_39 : decode prog_5_method_33_code 39 = .ok (.if_icmp .eq 14, 3) := by decide +kernel
theorem d50_42 : decode prog_5_method_33_code 42 = .ok (.iload_n 3, 1) := by decide +kernel
theorem d50_43 : decode prog_5_method_33_code 43 = .ok (.invokestatic 65, 3) := by decide +kernel
theorem d50_46 : decode prog_5_method_33_code 46 = .ok (.iload_n 2, 1) := by decide +kernel
theorem d50_47 : decode prog_5_method_33_code 47 = .ok (.invokestatic 65, 3) := by decide +kernel
theorem d50_50 : decode prog_5_method_33_code 50 = .ok (.if_icmp .ge 7, 3) := by decide +kernel
theorem d50_53 : decode prog_5_method_33_code 53 = .ok (.iconst 1, 1) := by decide +kernel
theorem d50_54 : decode prog_5_method_33_code 54 = .ok (.goto 4, 3) := by decide +kernel
theorem d50_57 : decode prog_5_method_33_code 57 = .ok (.iconst 0, 1) := by decide +kernel
theorem d50_58 : decode prog_5_method_33_code 58 = .ok (.istore 5, 2) := by decide +kernel
theorem d50_60 : decode prog_5_method_33_code 60 = .ok (.iload 4, 2) := by decide +kernel
theorem d50_62 : decode prog_5_method_33_code 62 = .ok (.ifCond .eq 22, 3) := by decide +kernel
theorem d50_65 : decode prog_5_method_33_code 65 = .ok (.iload 5, 2) := by decide +kernel
theorem d50_67 : decode prog_5_method_33_code 67 = .ok (.ifCond .eq 17, 3) := by decide +kernel
theorem d50_70 : decode prog_5_method_33_code 70 = .ok (.iload_n 1, 1) := by decide +kernel
theorem d50_71 : decode prog_5_method_33_code 71 = .ok (.aload_n 0, 1) := by decide +kernel
theorem d50_72 : decode prog_5_method_33_code 72 = .ok (.iload_n 3, 1) := by decide +kernel
theorem d50_73 : decode prog_5_method_33_code 73 = .ok (.invokevirtual 58, 3) := by decide +kernel
theorem d50_76 : decode prog_5_method_33_code 76 = .ok (.iconst (-1), 1) := by decide +kernel
theorem d50_77 : decode prog_5_method_33_code 77 = .ok (.ixor, 1) := by decide +kernel
theorem d50_78 : decode prog_5_method_33_code 78 = .ok (.iand, 1) := by decide +kernel
theorem d50_79 : decode prog_5_method_33_code 79 = .ok (.ifCond .ne 5, 3) := by decide +kernel
theorem d50_82 : decode prog_5_method_33_code 82 = .ok (.iload_n 3, 1) := by decide +kernel
theorem d50_83 : decode prog_5_method_33_code 83 = .ok (.istore_n 2, 1) := by decide +kernel
theorem d50_84 : decode prog_5_method_33_code 84 = .ok (.iinc 3 1, 3) := by decide +kernel
theorem d50_87 : decode prog_5_method_33_code 87 = .ok (.goto (-78), 3) := by decide +kernel
theorem d50_90 : decode prog_5_method_33_code 90 = .ok (.iload_n 2, 1) := by decide +kernel
theorem d50_91 : decode prog_5_method_33_code 91 = .ok (.ireturn, 1) := by decide +kernel
theorem b50 {X : mj_X} {d : Nat} {w : mj_W} {x0 : Nat} : mj_call X d 50 [.ref x0] w = mj_exec X d 50 0 [some (.ref x0), none, none, none, none, none] [] w := mw_ent mw_m50 (Nat.le_of_ble_eq_true rfl) rfl
theorem b50_0 {X : mj_X} {d : Nat} {s : mw_S} {k0 : Nat} {l1 : Option Value} {l2 : Option Value} {l3 : Option Value} {l4 : Option Value} {l5 : Option Value} (h0 : mw_cl k0 = some 3) : mj_exec X (d + 1) 50 0 [some (.ref k0), l1, l2, l3, l4, l5] [] (mw_U s) = (mj_call X d 51 [.ref k0] (mw_U s)).bind (mj_bk X (d + 1) 50 4 [some (.ref k0), l1, l2, l3, l4, l5] []) := (mj_q_aload_n mw_m50 d50_0 rfl (mw_neo h0)).trans (mw_q_callv mw_m50 rfl d50_1 mw_p3_61 mw_m51 rfl rfl (Nat.le_of_ble_eq_true rfl) (Nat.le_of_ble_eq_true rfl) rfl (mw_rcv h0) rfl rfl)
theorem b50_4 {X : mj_X} {d : Nat} {s : mw_S} {k0 : Nat} {l1 : Option Value} {l2 : Option Value} {l3 : Option Value} {l4 : Option Value} {l5 : Option Value} {xs0 : Int32} (h0 : mw_cl k0 = some 3) : mj_exec X d 50 4 [some (.ref k0), l1, l2, l3, l4, l5] [.int xs0] (mw_U s) = mj_exec X d 50 9 [some (.ref k0), some (.int xs0), some (.int (-1)), some (.int (nI 0)), l4, l5] [] (mw_U s) := (mj_q_istore_n mw_m50 d50_4 (Nat.le_of_ble_eq_true rfl) rfl rfl).trans ((mj_q_iconst mw_m50 d50_5 mw_k_iconst_m1).trans ((mj_q_istore_n mw_m50 d50_6 (Nat.le_of_ble_eq_true rfl) rfl rfl).trans ((mj_q_iconst mw_m50 d50_7 mw_k_iconst_0).trans (mj_q_istore_n mw_m50 d50_8 (Nat.le_of_ble_eq_true rfl) rfl rfl))))
theorem b50_9 {X : mj_X} {d : Nat} {s : mw_S} {k0 : Nat} {x1 : Int32} {x2 : Int32} {x3 : Int32} {l4 : Option Value} {l5 : Option Value} (h0 : mw_cl k0 = some 3) : mj_exec X d 50 9 [some (.ref k0), some (.int x1), some (.int x2), some (.int x3), l4, l5] [] (mw_U s) = if (nI 255) < x3 then mj_exec X d 50 90 [some (.ref k0), some (.int x1), some (.int x2), some (.int x3), l4, l5] [] (mw_U s) else mj_exec X d 50 16 [some (.ref k0), some (.int x1), some (.int x2), some (.int x3), l4, l5] [] (mw_U s) := (mj_q_iload_n mw_m50 d50_9 rfl).trans ((mj_q_sipush mw_m50 d50_10 mw_k_sipush_255).trans (mj_q_icmp_gt mw_m50 d50_13 rfl))
theorem b50_16 {X : mj_X} {d : Nat} {s : mw_S} {k0 : Nat} {x1 : Int32} {x2 : Int32} {x3 : Int32} {l4 : Option Value} {l5 : Option Value} (h0 : mw_cl k0 = some 3) : mj_exec X d 50 16 [some (.ref k0), some (.int x1), some (.int x2), some (.int x3), l4, l5] [] (mw_U s) = if mw_in 64 (nI 52) = true then if (x3 &&& ((s.1 (k0 + 1) ((nI 52)).toNatClampNeg) ^^^ (-1))) = 0 then mj_exec X d 50 30 [some (.ref k0), some (.int x1), some (.int x2), some (.int x3), l4, l5] [] (mw_U s) else mj_exec X d 50 34 [some (.ref k0), some (.int x1), some (.int x2), some (.int x3), l4, l5] [] (mw_U s) else none := (mj_q_iload_n mw_m50 d50_16 rfl).trans ((mj_q_aload_n mw_m50 d50_17 rfl (mw_neo h0)).trans ((mw_q_getr mw_m50 d50_18 mw_p3_11 h0 (mw_f3_0 h0)).trans ((mj_q_bipush mw_m50 d50_21 mw_k_bipush_52).trans ((mw_h_iald mw_m50 d50_23 (mw_a3_0 h0)).trans (mw_g ((mj_q_iconst mw_m50 d50_24 mw_k_iconst_m1).trans ((mj_q_ixor mw_m50 d50_25).trans ((mj_q_iand mw_m50 d50_26).trans (mj_q_if_ne mw_m50 d50_27 rfl)))))))))
theorem b50_30 {X : mj_X} {d : Nat} {s : mw_S} {k0 : Nat} {x1 : Int32} {x2 : Int32} {x3 : Int32} {l4 : Option Value} {l5 : Option Value} (h0 : mw_cl k0 = some 3) : mj_exec X d 50 30 [some (.ref k0), some (.int x1), some (.int x2), some (.int x3), l4, l5] [] (mw_U s) = mj_exec X d 50 35 [some (.ref k0), some (.int x1), some (.int x2), some (.int x3), l4, l5] [.int (nI 1)] (mw_U s) := (mj_q_iconst mw_m50 d50_30 mw_k_iconst_1).trans (mj_q_goto mw_m50 d50_31 rfl)
theorem b50_34 {X : mj_X} {d : Nat} {s : mw_S} {k0 : Nat} {x1 : Int32} {x2 : Int32} {x3 : Int32} {l4 : Option Value} {l5 : Option Value} (h0 : mw_cl k0 = some 3) : mj_exec X d 50 34 [some (.ref k0), some (.int x1), some (.int x2), some (.int x3), l4, l5] [] (mw_U s) = mj_exec X d 50 35 [some (.ref k0), some (.int x1), some (.int x2), some (.int x3), l4, l5] [.int (nI 0)] (mw_U s) := mj_q_iconst mw_m50 d50_34 mw_k_iconst_0
theorem b50_35 {X : mj_X} {d : Nat} {s : mw_S} {k0 : Nat} {x1 : Int32} {x2 : Int32} {x3 : Int32} {l4 : Option Value} {l5 : Option Value} {xs0 : Int32} (h0 : mw_cl k0 = some 3) : mj_exec X d 50 35 [some (.ref k0), some (.int x1), some (.int x2), some (.int x3), l4, l5] [.int xs0] (mw_U s) = if x2 = (-1) then mj_exec X d 50 53 [some (.ref k0), some (.int x1), some (.int x2), some (.int x3), some (.int xs0), l5] [] (mw_U s) else mj_exec X d 50 42 [some (.ref k0), some (.int x1), some (.int x2), some (.int x3), some (.int xs0), l5] [] (mw_U s) := (mj_q_istore mw_m50 d50_35 (Nat.le_of_ble_eq_true rfl) rfl rfl).trans ((mj_q_iload_n mw_m50 d50_37 rfl).trans ((mj_q_iconst mw_m50 d50_38 mw_k_iconst_m1).trans (mj_q_icmp_eq mw_m50 d50_39 rfl)))
theorem b50_42 {X : mj_X} {d : Nat} {s : mw_S} {k0 : Nat} {x1 : Int32} {x2 : Int32} {x3 : Int32} {x4 : Int32} {l5 : Option Value} (h0 : mw_cl k0 = some 3) : mj_exec X (d + 1) 50 42 [some (.ref k0), some (.int x1), some (.int x2), some (.int x3), some (.int x4), l5] [] (mw_U s) = (mj_call X d 348 [.int x3] (mw_U s)).bind (mj_bk X (d + 1) 50 46 [some (.ref k0), some (.int x1), some (.int x2), some (.int x3), some (.int x4), l5] []) := (mj_q_iload_n mw_m50 d50_42 rfl).trans (mw_q_calls mw_m50 rfl d50_43 mw_p3_65 mw_m348 rfl (Nat.le_of_ble_eq_true rfl) (Nat.le_of_ble_eq_true rfl) rfl rfl)
theorem b50_46 {X : mj_X} {d : Nat} {s : mw_S} {k0 : Nat} {x1 : Int32} {x2 : Int32} {x3 : Int32} {x4 : Int32} {l5 : Option Value} {xs0 : Int32} (h0 : mw_cl k0 = some 3) : mj_exec X (d + 1) 50 46 [some (.ref k0), some (.int x1), some (.int x2), some (.int x3), some (.int x4), l5] [.int xs0] (mw_U s) = (mj_call X d 348 [.int x2] (mw_U s)).bind (mj_bk X (d + 1) 50 50 [some (.ref k0), some (.int x1), some (.int x2), some (.int x3), some (.int x4), l5] [.int xs0]) := (mj_q_iload_n mw_m50 d50_46 rfl).trans (mw_q_calls mw_m50 rfl d50_47 mw_p3_65 mw_m348 rfl (Nat.le_of_ble_eq_true rfl) (Nat.le_of_ble_eq_true rfl) rfl rfl)
theorem b50_50 {X : mj_X} {d : Nat} {s : mw_S} {k0 : Nat} {x1 : Int32} {x2 : Int32} {x3 : Int32} {x4 : Int32} {l5 : Option Value} {xs0 : Int32} {xs1 : Int32} (h0 : mw_cl k0 = some 3) : mj_exec X d 50 50 [some (.ref k0), some (.int x1), some (.int x2), some (.int x3), some (.int x4), l5] [.int xs1, .int xs0] (mw_U s) = if xs1 ≤ xs0 then mj_exec X d 50 57 [some (.ref k0), some (.int x1), some (.int x2), some (.int x3), some (.int x4), l5] [] (mw_U s) else mj_exec X d 50 53 [some (.ref k0), some (.int x1), some (.int x2), some (.int x3), some (.int x4), l5] [] (mw_U s) := mj_q_icmp_ge mw_m50 d50_50 rfl
theorem b50_53 {X : mj_X} {d : Nat} {s : mw_S} {k0 : Nat} {x1 : Int32} {x2 : Int32} {x3 : Int32} {x4 : Int32} {l5 : Option Value} (h0 : mw_cl k0 = some 3) : mj_exec X d 50 53 [some (.ref k0), some (.int x1), some (.int x2), some (.int x3), some (.int x4), l5] [] (mw_U s) = mj_exec X d 50 58 [some (.ref k0), some (.int x1), some (.int x2), some (.int x3), some (.int x4), l5] [.int (nI 1)] (mw_U s) := (mj_q_iconst mw_m50 d50_53 mw_k_iconst_1).trans (mj_q_goto mw_m50 d50_54 rfl)
theorem b50_57 {X : mj_X} {d : Nat} {s : mw_S} {k0 : Nat} {x1 : Int32} {x2 : Int32} {x3 : Int32} {x4 : Int32} {l5 : Option Value} (h0 : mw_cl k0 = some 3) : mj_exec X d 50 57 [some (.ref k0), some (.int x1), some (.int x2), some (.int x3), some (.int x4), l5] [] (mw_U s) = mj_exec X d 50 58 [some (.ref k0), some (.int x1), some (.int x2), some (.int x3), some (.int x4), l5] [.int (nI 0)] (mw_U s) := mj_q_iconst mw_m50 d50_57 mw_k_iconst_0
theorem b50_58 {X : mj_X} {d : Nat} {s : mw_S} {k0 : Nat} {x1 : Int32} {x2 : Int32} {x3 : Int32} {x4 : Int32} {l5 : Option Value} {xs0 : Int32} (h0 : mw_cl k0 = some 3) : mj_exec X d 50 58 [some (.ref k0), some (.int x1), some (.int x2), some (.int x3), some (.int x4), l5] [.int xs0] (mw_U s) = if x4 = 0 then mj_exec X d 50 84 [some (.ref k0), some (.int x1), some (.int x2), some (.int x3), some (.int x4), some (.int xs0)] [] (mw_U s) else mj_exec X d 50 65 [some (.ref k0), some (.int x1), some (.int x2), some (.int x3), some (.int x4), some (.int xs0)] [] (mw_U s) := (mj_q_istore mw_m50 d50_58 (Nat.le_of_ble_eq_true rfl) rfl rfl).trans ((mj_q_iload mw_m50 d50_60 rfl).trans (mj_q_if_eq mw_m50 d50_62 rfl))
theorem b50_65 {X : mj_X} {d : Nat} {s : mw_S} {k0 : Nat} {x1 : Int32} {x2 : Int32} {x3 : Int32} {x4 : Int32} {x5 : Int32} (h0 : mw_cl k0 = some 3) : mj_exec X d 50 65 [some (.ref k0), some (.int x1), some (.int x2), some (.int x3), some (.int x4), some (.int x5)] [] (mw_U s) = if x5 = 0 then mj_exec X d 50 84 [some (.ref k0), some (.int x1), some (.int x2), some (.int x3), some (.int x4), some (.int x5)] [] (mw_U s) else mj_exec X d 50 70 [some (.ref k0), some (.int x1), some (.int x2), some (.int x3), some (.int x4), some (.int x5)] [] (mw_U s) := (mj_q_iload mw_m50 d50_65 rfl).trans (mj_q_if_eq mw_m50 d50_67 rfl)
theorem b50_70 {X : mj_X} {d : Nat} {s : mw_S} {k0 : Nat} {x1 : Int32} {x2 : Int32} {x3 : Int32} {x4 : Int32} {x5 : Int32} (h0 : mw_cl k0 = some 3) : mj_exec X (d + 1) 50 70 [some (.ref k0), some (.int x1), some (.int x2), some (.int x3), some (.int x4), some (.int x5)] [] (mw_U s) = (mj_call X d 53 [.ref k0, .int x3] (mw_U s)).bind (mj_bk X (d + 1) 50 76 [some (.ref k0), some (.int x1), some (.int x2), some (.int x3), some (.int x4), some (.int x5)] [.int x1]) := (mj_q_iload_n mw_m50 d50_70 rfl).trans ((mj_q_aload_n mw_m50 d50_71 rfl (mw_neo h0)).trans ((mj_q_iload_n mw_m50 d50_72 rfl).trans (mw_q_callv mw_m50 rfl d50_73 mw_p3_58 mw_m53 rfl rfl (Nat.le_of_ble_eq_true rfl) (Nat.le_of_ble_eq_true rfl) rfl (mw_rcv h0) rfl rfl)))
theorem b50_76 {X : mj_X} {d : Nat} {s : mw_S} {k0 : Nat} {x1 : Int32} {x2 : Int32} {x3 : Int32} {x4 : Int32} {x5 : Int32} {xs0 : Int32} {xs1 : Int32} (h0 : mw_cl k0 = some 3) : mj_exec X d 50 76 [some (.ref k0), some (.int x1), some (.int x2), some (.int x3), some (.int x4), some (.int x5)] [.int xs1, .int xs0] (mw_U s) = if (xs0 &&& (xs1 ^^^ (-1))) = 0 then mj_exec X d 50 82 [some (.ref k0), some (.int x1), some (.int x2), some (.int x3), some (.int x4), some (.int x5)] [] (mw_U s) else mj_exec X d 50 84 [some (.ref k0), some (.int x1), some (.int x2), some (.int x3), some (.int x4), some (.int x5)] [] (mw_U s) := (mj_q_iconst mw_m50 d50_76 mw_k_iconst_m1).trans ((mj_q_ixor mw_m50 d50_77).trans ((mj_q_iand mw_m50 d50_78).trans (mj_q_if_ne mw_m50 d50_79 rfl)))
theorem b50_82 {X : mj_X} {d : Nat} {s : mw_S} {k0 : Nat} {x1 : Int32} {x2 : Int32} {x3 : Int32} {x4 : Int32} {x5 : Int32} (h0 : mw_cl k0 = some 3) : mj_exec X d 50 82 [some (.ref k0), some (.int x1), some (.int x2), some (.int x3), some (.int x4), some (.int x5)] [] (mw_U s) = mj_exec X d 50 84 [some (.ref k0), some (.int x1), some (.int x3), some (.int x3), some (.int x4), some (.int x5)] [] (mw_U s) := (mj_q_iload_n mw_m50 d50_82 rfl).trans (mj_q_istore_n mw_m50 d50_83 (Nat.le_of_ble_eq_true rfl) rfl rfl)
theorem b50_84 {X : mj_X} {d : Nat} {s : mw_S} {k0 : Nat} {x1 : Int32} {x2 : Int32} {x3 : Int32} {x4 : Int32} {x5 : Int32} (h0 : mw_cl k0 = some 3) : mj_exec X d 50 84 [some (.ref k0), some (.int x1), some (.int x2), some (.int x3), some (.int x4), some (.int x5)] [] (mw_U s) = mj_exec X d 50 9 [some (.ref k0), some (.int x1), some (.int x2), some (.int (x3 + (nI 1))), some (.int x4), some (.int x5)] [] (mw_U s) := (mj_q_iinc mw_m50 d50_84 rfl (Nat.le_of_ble_eq_true rfl) rfl mw_k_iconst_1 rfl).trans (mj_q_goto mw_m50 d50_87 rfl)
theorem b50_90 {X : mj_X} {d : Nat} {s : mw_S} {k0 : Nat} {x1 : Int32} {x2 : Int32} {x3 : Int32} {l4 : Option Value} {l5 : Option Value} (h0 : mw_cl k0 = some 3) : mj_exec X d 50 90 [some (.ref k0), some (.int x1), some (.int x2), some (.int x3), l4, l5] [] (mw_U s) = some (.inl (some (.int x2)), mw_U s) := (mj_q_iload_n mw_m50 d50_90 rfl).trans (mj_q_iret mw_m50 d50_91 rfl)
/-- WivesQuarrels$Folk.neededWords -/
theorem d51_0 : decode prog_5_method_30_code 0 = .ok (.iconst 0, 1) := by decide +kernel
theorem d51_1 : decode prog_5_method_30_code 1 = .ok (.istore_n 1, 1) := by decide +kernel
theorem d51_2 : decode prog_5_method_30_code 2 = .ok (.iconst 0, 1) := by decide +kernel
theorem d51_3 : decode prog_5_method_30_code 3 = .ok (.istore_n 2, 1) := by decide +kernel
theorem d51_4 : decode prog_5_method_30_code 4 = .ok (.iload_n 2, 1) := by decide +kernel
theorem d51_5 : decode prog_5_method_30_code 5 = .ok (.bipush 28, 2) := by decide +kernel
theorem d51_7 : decode prog_5_method_30_code 7 = .ok (.if_icmp .ge 27, 3) := by decide +kernel
theorem d51_10 : decode prog_5_method_30_code 10 = .ok (.aload_n 0, 1) := by decide +kernel
theorem d51_11 : decode prog_5_method_30_code 11 = .ok (.iload_n 2, 1) := by decide +kernel
theorem d51_12 : decode prog_5_method_30_code 12 = .ok (.invokevirtual 52, 3) := by decide +kernel
theorem d51_15 : decode prog_5_method_30_code 15 = .ok (.ifCond .eq 13, 3) := by decide +kernel
theorem d51_18 : decode prog_5_method_30_code 18 = .ok (.iload_n 1, 1) := by decide +kernel
theorem d51_19 : decode prog_5_method_30_code 19 = .ok (.iconst 1, 1) := by decide +kernel
theorem d51_20 : decode prog_5_method_30_code 20 = .ok (.aload_n 0, 1) := by decide +kernel
theorem d51_21 : decode prog_5_method_30_code 21 = .ok (.iload_n 2, 1) := by decide +kernel
theorem d51_22 : decode prog_5_method_30_code 22 = .ok (.invokevirtual 55, 3) := by decide +kernel
theorem d51_25 : decode prog_5_method_30_code 25 = .ok (.ishl, 1) := by decide +kernel
theorem d51_26 : decode prog_5_method_30_code 26 = .ok (.ior, 1) := by decide +kernel
theorem d51_27 : decode prog_5_method_30_code 27 = .ok (.istore_n 1, 1) := by decide +kernel
theorem d51_28 : decode prog_5_method_30_code 28 = .ok (.iinc 2 1, 3) := by decide +kernel
theorem d51_31 : decode prog_5_method_30_code 31 = .ok (.goto (-27), 3) := by decide +kernel
theorem d51_34 : decode prog_5_method_30_code 34 = .ok (.iload_n 1, 1) := by decide +kernel
theorem d51_35 : decode prog_5_method_30_code 35 = .ok (.ireturn, 1) := by decide +kernel
theorem b51 {X : mj_X} {d : Nat} {w : mj_W} {x0 : Nat} : mj_call X d 51 [.ref x0] w = mj_exec X d 51 0 [some (.ref x0), none, none] [] w := mw_ent mw_m51 (Nat.le_of_ble_eq_true rfl) rfl
theorem b51_0 {X : mj_X} {d : Nat} {s : mw_S} {k0 : Nat} {l1 : Option Value} {l2 : Option Value} (h0 : mw_cl k0 = some 3) : mj_exec X d 51 0 [some (.ref k0), l1, l2] [] (mw_U s) = mj_exec X d 51 4 [some (.ref k0), some (.int (nI 0)), some (.int (nI 0))] [] (mw_U s) := (mj_q_iconst mw_m51 d51_0 mw_k_iconst_0).trans ((mj_q_istore_n mw_m51 d51_1 (Nat.le_of_ble_eq_true rfl) rfl rfl).trans ((mj_q_iconst mw_m51 d51_2 mw_k_iconst_0).trans (mj_q_istore_n mw_m51 d51_3 (Nat.le_of_ble_eq_true rfl) rfl rfl)))
theorem b51_4 {X : mj_X} {d : Nat} {s : mw_S} {k0 : Nat} {x1 : Int32} {x2 : Int32} (h0 : mw_cl k0 = some 3) : mj_exec X d 51 4 [some (.ref k0), some (.int x1), some (.int x2)] [] (mw_U s) = if (nI 28) ≤ x2 then mj_exec X d 51 34 [some (.ref k0), some (.int x1), some (.int x2)] [] (mw_U s) else mj_exec X d 51 10 [some (.ref k0), some (.int x1), some (.int x2)] [] (mw_U s) := (mj_q_iload_n mw_m51 d51_4 rfl).trans ((mj_q_bipush mw_m51 d51_5 mw_k_bipush_28).trans (mj_q_icmp_ge mw_m51 d51_7 rfl))
theorem b51_10 {X : mj_X} {d : Nat} {s : mw_S} {k0 : Nat} {x1 : Int32} {x2 : Int32} (h0 : mw_cl k0 = some 3) : mj_exec X (d + 1) 51 10 [some (.ref k0), some (.int x1), some (.int x2)] [] (mw_U s) = (mj_call X d 36 [.ref k0, .int x2] (mw_U s)).bind (mj_bk X (d + 1) 51 15 [some (.ref k0), some (.int x1), some (.int x2)] []) := (mj_q_aload_n mw_m51 d51_10 rfl (mw_neo h0)).trans ((mj_q_iload_n mw_m51 d51_11 rfl).trans (mw_q_callv mw_m51 rfl d51_12 mw_p3_52 mw_m36 rfl rfl (Nat.le_of_ble_eq_true rfl) (Nat.le_of_ble_eq_true rfl) rfl (mw_rcv h0) rfl rfl))
theorem b51_15 {X : mj_X} {d : Nat} {s : mw_S} {k0 : Nat} {x1 : Int32} {x2 : Int32} {xs0 : Int32} (h0 : mw_cl k0 = some 3) : mj_exec X d 51 15 [some (.ref k0), some (.int x1), some (.int x2)] [.int xs0] (mw_U s) = if xs0 = 0 then mj_exec X d 51 28 [some (.ref k0), some (.int x1), some (.int x2)] [] (mw_U s) else mj_exec X d 51 18 [some (.ref k0), some (.int x1), some (.int x2)] [] (mw_U s) := mj_q_if_eq mw_m51 d51_15 rfl
theorem b51_18 {X : mj_X} {d : Nat} {s : mw_S} {k0 : Nat} {x1 : Int32} {x2 : Int32} (h0 : mw_cl k0 = some 3) : mj_exec X (d + 1) 51 18 [some (.ref k0), some (.int x1), some (.int x2)] [] (mw_U s) = (mj_call X d 52 [.ref k0, .int x2] (mw_U s)).bind (mj_bk X (d + 1) 51 25 [some (.ref k0), some (.int x1), some (.int x2)] [.int (nI 1), .int x1]) := (mj_q_iload_n mw_m51 d51_18 rfl).trans ((mj_q_iconst mw_m51 d51_19 mw_k_iconst_1).trans ((mj_q_aload_n mw_m51 d51_20 rfl (mw_neo h0)).trans ((mj_q_iload_n mw_m51 d51_21 rfl).trans (mw_q_callv mw_m51 rfl d51_22 mw_p3_55 mw_m52 rfl rfl (Nat.le_of_ble_eq_true rfl) (Nat.le_of_ble_eq_true rfl) rfl (mw_rcv h0) rfl rfl))))
theorem b51_25 {X : mj_X} {d : Nat} {s : mw_S} {k0 : Nat} {x1 : Int32} {x2 : Int32} {xs0 : Int32} {xs1 : Int32} {xs2 : Int32} (h0 : mw_cl k0 = some 3) : mj_exec X d 51 25 [some (.ref k0), some (.int x1), some (.int x2)] [.int xs2, .int xs1, .int xs0] (mw_U s) = mj_exec X d 51 28 [some (.ref k0), some (.int (xs0 ||| (xs1 <<< (xs2 &&& 31)))), some (.int x2)] [] (mw_U s) := (mj_q_ishl mw_m51 d51_25).trans ((mj_q_ior mw_m51 d51_26).trans (mj_q_istore_n mw_m51 d51_27 (Nat.le_of_ble_eq_true rfl) rfl rfl))
theorem b51_28 {X : mj_X} {d : Nat} {s : mw_S} {k0 : Nat} {x1 : Int32} {x2 : Int32} (h0 : mw_cl k0 = some 3) : mj_exec X d 51 28 [some (.ref k0), some (.int x1), some (.int x2)] [] (mw_U s) = mj_exec X d 51 4 [some (.ref k0), some (.int x1), some (.int (x2 + (nI 1)))] [] (mw_U s) := (mj_q_iinc mw_m51 d51_28 rfl (Nat.le_of_ble_eq_true rfl) rfl mw_k_iconst_1 rfl).trans (mj_q_goto mw_m51 d51_31 rfl)
theorem b51_34 {X : mj_X} {d : Nat} {s : mw_S} {k0 : Nat} {x1 : Int32} {x2 : Int32} (h0 : mw_cl k0 = some 3) : mj_exec X d 51 34 [some (.ref k0), some (.int x1), some (.int x2)] [] (mw_U s) = some (.inl (some (.int x1)), mw_U s) := (mj_q_iload_n mw_m51 d51_34 rfl).trans (mj_q_iret mw_m51 d51_35 rfl)
/-- WivesQuarrels$Folk.reason -/
theorem d52_0 : decode prog_5_method_20_code 0 = .ok (.iload_n 1, 1) := by decide +kernel
theorem d52_1 : decode prog_5_method_20_code 1 = .ok (.ifCond .lt 9, 3) := by decide +kernel
theorem d52_4 : decode prog_5_method_20_code 4 = .ok (.iload_n 1, 1) := by decide +kernel
theorem d52_5 : decode prog_5_method_20_code 5 = .ok (.bipush 28, 2) := by decide +kernel
theorem d52_7 : decode prog_5_method_20_code 7 = .ok (.if_icmp .lt 7, 3) := by decide +kernel
theorem d52_10 : decode prog_5_method_20_code 10 = .ok (.iconst 0, 1) := by decide +kernel
theorem d52_11 : decode prog_5_method_20_code 11 = .ok (.goto 18, 3) := by decide +kernel
theorem d52_14 : decode prog_5_method_20_code 14 = .ok (.aload_n 0, 1) := by decide +kernel
theorem d52_15 : decode prog_5_method_20_code 15 = .ok (.getfield 11, 3) := by decide +kernel
theorem d52_18 : decode prog_5_method_20_code 18 = .ok (.bipush 24, 2) := by decide +kernel
theorem d52_20 : decode prog_5_method_20_code 20 = .ok (.iload_n 1, 1) := by decide +kernel
theorem d52_21 : decode prog_5_method_20_code 21 = .ok (.iadd, 1) := by decide +kernel
theorem d52_22 : decode prog_5_method_20_code 22 = .ok (.iaload, 1) := by decide +kernel
theorem d52_23 : decode prog_5_method_20_code 23 = .ok (.bipush 7, 2) := by decide +kernel
theorem d52_25 : decode prog_5_method_20_code 25 = .ok (.ishr, 1) := by decide +kernel
theorem d52_26 : decode prog_5_method_20_code 26 = .ok (.bipush 15, 2) := by decide +kernel
theorem d52_28 : decode prog_5_method_20_code 28 = .ok (.iand, 1) := by decide +kernel
theorem d52_29 : decode prog_5_method_20_code 29 = .ok (.ireturn, 1) := by decide +kernel
theorem b52 {X : mj_X} {d : Nat} {w : mj_W} {x0 : Nat} {x1 : Int32} : mj_call X d 52 [.ref x0, .int x1] w = mj_exec X d 52 0 [some (.ref x0), some (.int x1)] [] w := mw_ent mw_m52 (Nat.le_of_ble_eq_true rfl) rfl
theorem b52_0 {X : mj_X} {d : Nat} {s : mw_S} {k0 : Nat} {x1 : Int32} (h0 : mw_cl k0 = some 3) : mj_exec X d 52 0 [some (.ref k0), some (.int x1)] [] (mw_U s) = if x1 < 0 then mj_exec X d 52 10 [some (.ref k0), some (.int x1)] [] (mw_U s) else mj_exec X d 52 4 [some (.ref k0), some (.int x1)] [] (mw_U s) := (mj_q_iload_n mw_m52 d52_0 rfl).trans (mj_q_if_lt mw_m52 d52_1 rfl)
theorem b52_4 {X : mj_X} {d : Nat} {s : mw_S} {k0 : Nat} {x1 : Int32} (h0 : mw_cl k0 = some 3) : mj_exec X d 52 4 [some (.ref k0), some (.int x1)] [] (mw_U s) = if x1 < (nI 28) then mj_exec X d 52 14 [some (.ref k0), some (.int x1)] [] (mw_U s) else mj_exec X d 52 10 [some (.ref k0), some (.int x1)] [] (mw_U s) := (mj_q_iload_n mw_m52 d52_4 rfl).trans ((mj_q_bipush mw_m52 d52_5 mw_k_bipush_28).trans (mj_q_icmp_lt mw_m52 d52_7 rfl))
theorem b52_10 {X : mj_X} {d : Nat} {s : mw_S} {k0 : Nat} {x1 : Int32} (h0 : mw_cl k0 = some 3) : mj_exec X d 52 10 [some (.ref k0), some (.int x1)] [] (mw_U s) = mj_exec X d 52 29 [some (.ref k0), some (.int x1)] [.int (nI 0)] (mw_U s) := (mj_q_iconst mw_m52 d52_10 mw_k_iconst_0).trans (mj_q_goto mw_m52 d52_11 rfl)
theorem b52_14 {X : mj_X} {d : Nat} {s : mw_S} {k0 : Nat} {x1 : Int32} (h0 : mw_cl k0 = some 3) : mj_exec X d 52 14 [some (.ref k0), some (.int x1)] [] (mw_U s) = if mw_in 64 ((nI 24) + x1) = true then mj_exec X d 52 29 [some (.ref k0), some (.int x1)] [.int (((s.1 (k0 + 1) (((nI 24) + x1)).toNatClampNeg) >>> ((nI 7) &&& 31)) &&& (nI 15))] (mw_U s) else none := (mj_q_aload_n mw_m52 d52_14 rfl (mw_neo h0)).trans ((mw_q_getr mw_m52 d52_15 mw_p3_11 h0 (mw_f3_0 h0)).trans ((mj_q_bipush mw_m52 d52_18 mw_k_bipush_24).trans ((mj_q_iload_n mw_m52 d52_20 rfl).trans ((mj_q_iadd mw_m52 d52_21).trans ((mw_h_iald mw_m52 d52_22 (mw_a3_0 h0)).trans (mw_g ((mj_q_bipush mw_m52 d52_23 mw_k_bipush_7).trans ((mj_q_ishr mw_m52 d52_25).trans ((mj_q_bipush mw_m52 d52_26 mw_k_bipush_15).trans (mj_q_iand mw_m52 d52_28))))))))))
theorem b52_29 {X : mj_X} {d : Nat} {s : mw_S} {k0 : Nat} {x1 : Int32} {xs0 : Int32} (h0 : mw_cl k0 = some 3) : mj_exec X d 52 29 [some (.ref k0), some (.int x1)] [.int xs0] (mw_U s) = some (.inl (some (.int xs0)), mw_U s) := mj_q_iret mw_m52 d52_29 rfl
/-- WivesQuarrels$Folk.wordsOf -/
theorem d53_0 : decode prog_5_method_32_code 0 = .ok (.iconst 0, 1) := by decide +kernel
theorem d53_1 : decode prog_5_method_32_code 1 = .ok (.istore_n 2, 1) := by decide +kernel
theorem d53_2 : decode prog_5_method_32_code 2 = .ok (.iconst 0, 1) := by decide +kernel
theorem d53_3 : decode prog_5_method_32_code 3 = .ok (.istore_n 3, 1) := by decide +kernel
theorem d53_4 : decode prog_5_method_32_code 4 = .ok (.iload_n 3, 1) := by decide +kernel
theorem d53_5 : decode prog_5_method_32_code 5 = .ok (.bipush 8, 2) := by decide +kernel
theorem d53_7 : decode prog_5_method_32_code 7 = .ok (.if_icmp .ge 29, 3) := by decide +kernel
theorem d53_10 : decode prog_5_method_32_code 10 = .ok (.iload_n 3, 1) := by decide +kernel
theorem d53_11 : decode prog_5_method_32_code 11 = .ok (.iload_n 1, 1) := by decide +kernel
theorem d53_12 : decode prog_5_method_32_code 12 = .ok (.invokestatic 31, 3) := by decide +kernel
theorem d53_15 : decode prog_5_method_32_code 15 = .ok (.ifCond .eq 15, 3) := by decide +kernel
theorem d53_18 : decode prog_5_method_32_code 18 = .ok (.iload_n 2, 1) := by decide +kernel
theorem d53_19 : decode prog_5_method_32_code 19 = .ok (.aload_n 0, 1) := by decide +kernel
theorem d53_20 : decode prog_5_method_32_code 20 = .ok (.getfield 11, 3) := by decide +kernel
theorem d53_23 : decode prog_5_method_32_code 23 = .ok (.bipush 8, 2) := by decide +kernel
theorem d53_25 : decode prog_5_method_32_code 25 = .ok (.iload_n 3, 1) := by decide +kernel
theorem d53_26 : decode prog_5_method_32_code 26 = .ok (.iadd, 1) := by decide +kernel
theorem d53_27 : decode prog_5_method_32_code 27 = .ok (.iaload, 1) := by decide +kernel
theorem d53_28 : decode prog_5_method_32_code 28 = .ok (.ior, 1) := by decide +kernel
theorem d53_29 : decode prog_5_method_32_code 29 = .ok (.istore_n 2, 1) := by decide +kernel
theorem d53_30 : decode prog_5_method_32_code 30 = .ok (.iinc 3 1, 3) := by decide +kernel
theorem d53_33 : decode prog_5_method_32_code 33 = .ok (.goto (-29), 3) := by decide +kernel
theorem d53_36 : decode prog_5_method_32_code 36 = .ok (.iload_n 2, 1) := by decide +kernel
theorem d53_37 : decode prog_5_method_32_code 37 = .ok (.ireturn, 1) := by decide +kernel
theorem b53 {X : mj_X} {d : Nat} {w : mj_W} {x0 : Nat} {x1 : Int32} : mj_call X d 53 [.ref x0, .int x1] w = mj_exec X d 53 0 [some (.ref x0), some (.int x1), none, none] [] w := mw_ent mw_m53 (Nat.le_of_ble_eq_true rfl) rfl
theorem b53_0 {X : mj_X} {d : Nat} {s : mw_S} {k0 : Nat} {x1 : Int32} {l2 : Option Value} {l3 : Option Value} (h0 : mw_cl k0 = some 3) : mj_exec X d 53 0 [some (.ref k0), some (.int x1), l2, l3] [] (mw_U s) = mj_exec X d 53 4 [some (.ref k0), some (.int x1), some (.int (nI 0)), some (.int (nI 0))] [] (mw_U s) := (mj_q_iconst mw_m53 d53_0 mw_k_iconst_0).trans ((mj_q_istore_n mw_m53 d53_1 (Nat.le_of_ble_eq_true rfl) rfl rfl).trans ((mj_q_iconst mw_m53 d53_2 mw_k_iconst_0).trans (mj_q_istore_n mw_m53 d53_3 (Nat.le_of_ble_eq_true rfl) rfl rfl)))
theorem b53_4 {X : mj_X} {d : Nat} {s : mw_S} {k0 : Nat} {x1 : Int32} {x2 : Int32} {x3 : Int32} (h0 : mw_cl k0 = some 3) : mj_exec X d 53 4 [some (.ref k0), some (.int x1), some (.int x2), some (.int x3)] [] (mw_U s) = if (nI 8) ≤ x3 then mj_exec X d 53 36 [some (.ref k0), some (.int x1), some (.int x2), some (.int x3)] [] (mw_U s) else mj_exec X d 53 10 [some (.ref k0), some (.int x1), some (.int x2), some (.int x3)] [] (mw_U s) := (mj_q_iload_n mw_m53 d53_4 rfl).trans ((mj_q_bipush mw_m53 d53_5 mw_k_bipush_8).trans (mj_q_icmp_ge mw_m53 d53_7 rfl))
theorem b53_10 {X : mj_X} {d : Nat} {s : mw_S} {k0 : Nat} {x1 : Int32} {x2 : Int32} {x3 : Int32} (h0 : mw_cl k0 = some 3) : mj_exec X (d + 1) 53 10 [some (.ref k0), some (.int x1), some (.int x2), some (.int x3)] [] (mw_U s) = (mj_call X d 149 [.int x3, .int x1] (mw_U s)).bind (mj_bk X (d + 1) 53 15 [some (.ref k0), some (.int x1), some (.int x2), some (.int x3)] []) := (mj_q_iload_n mw_m53 d53_10 rfl).trans ((mj_q_iload_n mw_m53 d53_11 rfl).trans (mw_q_calln mw_m53 rfl d53_12 mw_p3_31 mw_m149 rfl rfl (Nat.le_of_ble_eq_true rfl) (Nat.le_of_ble_eq_true rfl) rfl rfl))
theorem b53_15 {X : mj_X} {d : Nat} {s : mw_S} {k0 : Nat} {x1 : Int32} {x2 : Int32} {x3 : Int32} {xs0 : Int32} (h0 : mw_cl k0 = some 3) : mj_exec X d 53 15 [some (.ref k0), some (.int x1), some (.int x2), some (.int x3)] [.int xs0] (mw_U s) = if xs0 = 0 then mj_exec X d 53 30 [some (.ref k0), some (.int x1), some (.int x2), some (.int x3)] [] (mw_U s) else mj_exec X d 53 18 [some (.ref k0), some (.int x1), some (.int x2), some (.int x3)] [] (mw_U s) := mj_q_if_eq mw_m53 d53_15 rfl
theorem b53_18 {X : mj_X} {d : Nat} {s : mw_S} {k0 : Nat} {x1 : Int32} {x2 : Int32} {x3 : Int32} (h0 : mw_cl k0 = some 3) : mj_exec X d 53 18 [some (.ref k0), some (.int x1), some (.int x2), some (.int x3)] [] (mw_U s) = if mw_in 64 ((nI 8) + x3) = true then mj_exec X d 53 30 [some (.ref k0), some (.int x1), some (.int (x2 ||| (s.1 (k0 + 1) (((nI 8) + x3)).toNatClampNeg))), some (.int x3)] [] (mw_U s) else none := (mj_q_iload_n mw_m53 d53_18 rfl).trans ((mj_q_aload_n mw_m53 d53_19 rfl (mw_neo h0)).trans ((mw_q_getr mw_m53 d53_20 mw_p3_11 h0 (mw_f3_0 h0)).trans ((mj_q_bipush mw_m53 d53_23 mw_k_bipush_8).trans ((mj_q_iload_n mw_m53 d53_25 rfl).trans ((mj_q_iadd mw_m53 d53_26).trans ((mw_h_iald mw_m53 d53_27 (mw_a3_0 h0)).trans (mw_g ((mj_q_ior mw_m53 d53_28).trans (mj_q_istore_n mw_m53 d53_29 (Nat.le_of_ble_eq_true rfl) rfl rfl)))))))))
theorem b53_30 {X : mj_X} {d : Nat} {s : mw_S} {k0 : Nat} {x1 : Int32} {x2 : Int32} {x3 : Int32} (h0 : mw_cl k0 = some 3) : mj_exec X d 53 30 [some (.ref k0), some (.int x1), some (.int x2), some (.int x3)] [] (mw_U s) = mj_exec X d 53 4 [some (.ref k0), some (.int x1), some (.int x2), some (.int (x3 + (nI 1)))] [] (mw_U s) := (mj_q_iinc mw_m53 d53_30 rfl (Nat.le_of_ble_eq_true rfl) rfl mw_k_iconst_1 rfl).trans (mj_q_goto mw_m53 d53_33 rfl)
theorem b53_36 {X : mj_X} {d : Nat} {s : mw_S} {k0 : Nat} {x1 : Int32} {x2 : Int32} {x3 : Int32} (h0 : mw_cl k0 = some 3) : mj_exec X d 53 36 [some (.ref k0), some (.int x1), some (.int x2), some (.int x3)] [] (mw_U s) = some (.inl (some (.int x2)), mw_U s) := (mj_q_iload_n mw_m53 d53_36 rfl).trans (mj_q_iret mw_m53 d53_37 rfl)
/-- WivesQuarrels$Folk.bury -/
theorem d54_0 : decode prog_5_method_39_code 0 = .ok (.iload_n 1, 1) := by decide +kernel
theorem d54_1 : decode prog_5_method_39_code 1 = .ok (.invokestatic 27, 3) := by decide +kernel
theorem d54_4 : decode prog_5_method_39_code 4 = .ok (.ifCond .ne 4, 3) := by decide +kernel
theorem d54_7 : decode prog_5_method_39_code 7 = .ok (.return_, 1) := by decide +kernel
theorem d54_8 : decode prog_5_method_39_code 8 = .ok (.aload_n 0, 1) := by decide +kernel
theorem d54_9 : decode prog_5_method_39_code 9 = .ok (.iload_n 1, 1) := by decide +kernel
theorem d54_10 : decode prog_5_method_39_code 10 = .ok (.invokevirtual 76, 3) := by decide +kernel
theorem d54_13 : decode prog_5_method_39_code 13 = .ok (.istore_n 2, 1) := by decide +kernel
theorem d54_14 : decode prog_5_method_39_code 14 = .ok (.aload_n 0, 1) := by decide +kernel
theorem d54_15 : decode prog_5_method_39_code 15 = .ok (.getfield 11, 3) := by decide +kernel
theorem d54_18 : decode prog_5_method_39_code 18 = .ok (.bipush 52, 2) := by decide +kernel
theorem d54_20 : decode prog_5_method_39_code 20 = .ok (.dup2, 1) := by decide +kernel
theorem d54_21 : decode prog_5_method_39_code 21 = .ok (.iaload, 1) := by decide +kernel
theorem d54_22 : decode prog_5_method_39_code 22 = .ok (.iconst 1, 1) := by decide +kernel
theorem d54_23 : decode prog_5_method_39_code 23 = .ok (.iload_n 1, 1) := by decide +kernel
theorem d54_24 : decode prog_5_method_39_code 24 = .ok (.ishl, 1) := by decide +kernel
theorem d54_25 : decode prog_5_method_39_code 25 = .ok (.iconst (-1), 1) := by decide +kernel
theorem d54_26 : decode prog_5_method_39_code 26 = .ok (.ixor, 1) := by decide +kernel
theorem d54_27 : decode prog_5_method_39_code 27 = .ok (.iand, 1) := by decide +kernel
theorem d54_28 : decode prog_5_method_39_code 28 = .ok (.iastore, 1) := by decide +kernel
theorem d54_29 : decode prog_5_method_39_code 29 = .ok (.aload_n 0, 1) := by decide +kernel
theorem d54_30 : decode prog_5_method_39_code 30 = .ok (.getfield 11, 3) := by decide +kernel
theorem d54_33 : decode prog_5_method_39_code 33 = .ok (.bipush 16, 2) := by decide +kernel
theorem d54_35 : decode prog_5_method_39_code 35 = .ok (.iload_n 1, 1) := by decide +kernel
theorem d54_36 : decode prog_5_method_39_code 36 = .ok (.iadd, 1) := by decide +kernel
theorem d54_37 : decode prog_5_method_39_code 37 = .ok (.iconst 0, 1) := by decide +kernel
theorem d54_38 : decode prog_5_method_39_code 38 = .ok (.iastore, 1) := by decide +kernel
theorem d54_39 : decode prog_5_method_39_code 39 = .ok (.iload_n 2, 1) := by decide +kernel
theorem d54_40 : decode prog_5_method_39_code 40 = .ok (.invokestatic 27, 3) := by decide +kernel
theorem d54_43 : decode prog_5_method_39_code 43 = .ok (.ifCond .eq 34, 3) := by decide +kernel
theorem d54_46 : decode prog_5_method_39_code 46 = .ok (.aload_n 0, 1) := by decide +kernel
theorem d54_47 : decode prog_5_method_39_code 47 = .ok (.getfield 11, 3) := by decide +kernel
theorem d54_50 : decode prog_5_method_39_code 50 = .ok (.bipush 16, 2) := by decide +kernel
theorem d54_52 : decode prog_5_method_39_code 52 = .ok (.iload_n 2, 1) := by decide +kernel
theorem d54_53 : decode prog_5_method_39_code 53 = .ok (.iadd, 1) := by decide +kernel
theorem d54_54 : decode prog_5_method_39_code 54 = .ok (.iconst 0, 1) := by decide +kernel
theorem d54_55 : decode prog_5_method_39_code 55 = .ok (.iastore, 1) := by decide +kernel
theorem d54_56 : decode prog_5_method_39_code 56 = .ok (.aload_n 0, 1) := by decide +kernel
theorem d54_57 : decode prog_5_method_39_code 57 = .ok (.getfield 11, 3) := by decide +kernel
theorem d54_60 : decode prog_5_method_39_code 60 = .ok (.bipush 8, 2) := by decide +kernel
theorem d54_62 : decode prog_5_method_39_code 62 = .ok (.iload_n 2, 1) := by decide +kernel
theorem d54_63 : decode prog_5_method_39_code 63 = .ok (.iadd, 1) := by decide +kernel
theorem d54_64 : decode prog_5_method_39_code 64 = .ok (.dup2, 1) := by decide +kernel
theorem d54_65 : decode prog_5_method_39_code 65 = .ok (.iaload, 1) := by decide +kernel
theorem d54_66 : decode prog_5_method_39_code 66 = .ok (.aload_n 0, 1) := by decide +kernel
theorem d54_67 : decode prog_5_method_39_code 67 = .ok (.getfield 11, 3) := by decide +kernel
theorem d54_70 : decode prog_5_method_39_code 70 = .ok (.bipush 8, 2) := by decide +kernel
theorem d54_72 : decode prog_5_method_39_code 72 = .ok (.iload_n 1, 1) := by decide +kernel
theorem d54_73 : decode prog_5_method_39_code 73 = .ok (.iadd, 1) := by decide +kernel
theorem d54_74 : decode prog_5_method_39_code 74 = .ok (.iaload, 1) := by decide +kernel
theorem d54_75 : decode prog_5_method_39_code 75 = .ok (.ior, 1) := by decide +kernel
theorem d54_76 : decode prog_5_method_39_code 76 = .ok (.iastore, 1) := by decide +kernel
theorem d54_77 : decode prog_5_method_39_code 77 = .ok (.iconst 0, 1) := by decide +kernel
theorem d54_78 : decode prog_5_method_39_code 78 = .ok (.istore_n 3, 1) := by decide +kernel
theorem d54_79 : decode prog_5_method_39_code 79 = .ok (.iload_n 3, 1) := by decide +kernel
theorem d54_80 : decode prog_5_method_39_code 80 = .ok (.bipush 8, 2) := by decide +kernel
theorem d54_82 : decode prog_5_method_39_code 82 = .ok (.if_icmp .ge 52, 3) := by decide +kernel
theorem d54_85 : decode prog_5_method_39_code 85 = .ok (.iload_n 1, 1) := by decide +kernel
theorem d54_86 : decode prog_5_method_39_code 86 = .ok (.iload_n 3, 1) := by decide +kernel
theorem d54_87 : decode prog_5_method_39_code 87 = .ok (.invokestatic 48, 3) := by decide +kernel
theorem d54_90 : decode prog_5_method_39_code 90 = .ok (.istore 4, 2) := by decide +kernel
theorem d54_92 : decode prog_5_method_39_code 92 = .ok (.aload_n 0, 1) := by decide +kernel
theorem d54_93 : decode prog_5_method_39_code 93 = .ok (.iload 4, 2) := by decide +kernel
theorem d54_95 : decode prog_5_method_39_code 95 = .ok (.invokevirtual 52, 3) := by decide +kernel
theorem d54_98 : decode prog_5_method_39_code 98 = .ok (.ifCond .eq 30, 3) := by decide +kernel
theorem d54_101 : decode prog_5_method_39_code 101 = .ok (.iload_n 2, 1) := by decide +kernel
theorem d54_102 : decode prog_5_method_39_code 102 = .ok (.iconst (-1), 1) := by decide +kernel
theorem d54_103 : decode prog_5_method_39_code 103 = .ok (.if_icmp .eq 19, 3) := by decide +kernel
theorem d54_106 : decode prog_5_method_39_code 106 = .ok (.iload_n 2, 1) := by decide +kernel
theorem d54_107 : decode prog_5_method_39_code 107 = .ok (.iload_n 3, 1) := by decide +kernel
theorem d54_108 : decode prog_5_method_39_code 108 = .ok (.if_icmp .eq 14, 3) := by decide +kernel
theorem d54_111 : decode prog_5_method_39_code 111 = .ok (.aload_n 0, 1) := by decide +kernel
theorem d54_112 : decode prog_5_method_39_code 112 = .ok (.iload 4, 2) := by decide +kernel
theorem d54_114 : decode prog_5_method_39_code 114 = .ok (.iload_n 2, 1) := by decide +kernel
theorem d54_115 : decode prog_5_method_39_code 115 = .ok (.iload_n 3, 1) := by decide +kernel
theorem d54_116 : decode prog_5_method_39_code 116 = .ok (.invokestatic 48, 3) := by decide +kernel
theorem d54_119 : decode prog_5_method_39_code 119 = .ok (.invokevirtual 87, 3) := by decide +kernel
theorem d54_122 : decode prog_5_method_39_code 122 = .ok (.aload_n 0, 1) := by decide +kernel
theorem d54_123 : decode prog_5_method_39_code 123 = .ok (.iload 4, 2) := by decide +kernel
theorem d54_125 : decode prog_5_method_39_code 125 = .ok (.invokevirtual 83, 3) := by decide +kernel
theorem d54_128 : decode prog_5_method_39_code 128 = .ok (.iinc 3 1, 3) := by decide +kernel
theorem d54_131 : decode prog_5_method_39_code 131 = .ok (.goto (-52), 3) := by decide +kernel
theorem d54_134 : decode prog_5_method_39_code 134 = .ok (.return_, 1) := by decide +kernel
theorem b54 {X : mj_X} {d : Nat} {w : mj_W} {x0 : Nat} {x1 : Int32} : mj_call X d 54 [.ref x0, .int x1] w = mj_exec X d 54 0 [some (.ref x0), some (.int x1), none, none, none] [] w := mw_ent mw_m54 (Nat.le_of_ble_eq_true rfl) rfl
theorem b54_0 {X : mj_X} {d : Nat} {s : mw_S} {k0 : Nat} {x1 : Int32} {l2 : Option Value} {l3 : Option Value} {l4 : Option Value} (h0 : mw_cl k0 = some 3) : mj_exec X (d + 1) 54 0 [some (.ref k0), some (.int x1), l2, l3, l4] [] (mw_U s) = (mj_call X d 39 [.int x1] (mw_U s)).bind (mj_bk X (d + 1) 54 4 [some (.ref k0), some (.int x1), l2, l3, l4] []) := (mj_q_iload_n mw_m54 d54_0 rfl).trans (mw_q_calls mw_m54 rfl d54_1 mw_p3_27 mw_m39 rfl (Nat.le_of_ble_eq_true rfl) (Nat.le_of_ble_eq_true rfl) rfl rfl)
theorem b54_4 {X : mj_X} {d : Nat} {s : mw_S} {k0 : Nat} {x1 : Int32} {l2 : Option Value} {l3 : Option Value} {l4 : Option Value} {xs0 : Int32} (h0 : mw_cl k0 = some 3) : mj_exec X d 54 4 [some (.ref k0), some (.int x1), l2, l3, l4] [.int xs0] (mw_U s) = if xs0 = 0 then mj_exec X d 54 7 [some (.ref k0), some (.int x1), l2, l3, l4] [] (mw_U s) else mj_exec X d 54 8 [some (.ref k0), some (.int x1), l2, l3, l4] [] (mw_U s) := mj_q_if_ne mw_m54 d54_4 rfl
theorem b54_7 {X : mj_X} {d : Nat} {s : mw_S} {k0 : Nat} {x1 : Int32} {l2 : Option Value} {l3 : Option Value} {l4 : Option Value} (h0 : mw_cl k0 = some 3) : mj_exec X d 54 7 [some (.ref k0), some (.int x1), l2, l3, l4] [] (mw_U s) = some (.inl none, mw_U s) := mj_q_vret mw_m54 d54_7 rfl
theorem b54_8 {X : mj_X} {d : Nat} {s : mw_S} {k0 : Nat} {x1 : Int32} {l2 : Option Value} {l3 : Option Value} {l4 : Option Value} (h0 : mw_cl k0 = some 3) : mj_exec X (d + 1) 54 8 [some (.ref k0), some (.int x1), l2, l3, l4] [] (mw_U s) = (mj_call X d 55 [.ref k0, .int x1] (mw_U s)).bind (mj_bk X (d + 1) 54 13 [some (.ref k0), some (.int x1), l2, l3, l4] []) := (mj_q_aload_n mw_m54 d54_8 rfl (mw_neo h0)).trans ((mj_q_iload_n mw_m54 d54_9 rfl).trans (mw_q_callv mw_m54 rfl d54_10 mw_p3_76 mw_m55 rfl rfl (Nat.le_of_ble_eq_true rfl) (Nat.le_of_ble_eq_true rfl) rfl (mw_rcv h0) rfl rfl))
theorem b54_13 {X : mj_X} {d : Nat} {s : mw_S} {k0 : Nat} {x1 : Int32} {l2 : Option Value} {l3 : Option Value} {l4 : Option Value} {xs0 : Int32} (h0 : mw_cl k0 = some 3) : mj_exec X (d + 1) 54 13 [some (.ref k0), some (.int x1), l2, l3, l4] [.int xs0] (mw_U s) = if mw_in 64 (nI 52) = true then if mw_in 64 (nI 52) = true then if mw_in 64 ((nI 16) + x1) = true then (mj_call X d 39 [.int xs0] (mw_U (mw_p (mw_p s (k0 + 1) ((nI 52)).toNatClampNeg ((s.1 (k0 + 1) ((nI 52)).toNatClampNeg) &&& (((nI 1) <<< (x1 &&& 31)) ^^^ (-1)))) (k0 + 1) (((nI 16) + x1)).toNatClampNeg (nI 0)))).bind (mj_bk X (d + 1) 54 43 [some (.ref k0), some (.int x1), some (.int xs0), l3, l4] []) else none else none else none := (mj_q_istore_n mw_m54 d54_13 (Nat.le_of_ble_eq_true rfl) rfl rfl).trans ((mj_q_aload_n mw_m54 d54_14 rfl (mw_neo h0)).trans ((mw_q_getr mw_m54 d54_15 mw_p3_11 h0 (mw_f3_0 h0)).trans ((mj_q_bipush mw_m54 d54_18 mw_k_bipush_52).trans ((mj_q_dup2 mw_m54 d54_20 rfl rfl).trans ((mw_h_iald mw_m54 d54_21 (mw_a3_0 h0)).trans (mw_g ((mj_q_iconst mw_m54 d54_22 mw_k_iconst_1).trans ((mj_q_iload_n mw_m54 d54_23 rfl).trans ((mj_q_ishl mw_m54 d54_24).trans ((mj_q_iconst mw_m54 d54_25 mw_k_iconst_m1).trans ((mj_q_ixor mw_m54 d54_26).trans ((mj_q_iand mw_m54 d54_27).trans ((mw_h_iast mw_m54 d54_28 (mw_a3_0 h0)).trans (mw_g ((mj_q_aload_n mw_m54 d54_29 rfl (mw_neo h0)).trans ((mw_q_getr mw_m54 d54_30 mw_p3_11 h0 (mw_f3_0 h0)).trans ((mj_q_bipush mw_m54 d54_33 mw_k_bipush_16).trans ((mj_q_iload_n mw_m54 d54_35 rfl).trans ((mj_q_iadd mw_m54 d54_36).trans ((mj_q_iconst mw_m54 d54_37 mw_k_iconst_0).trans ((mw_h_iast mw_m54 d54_38 (mw_a3_0 h0)).trans (mw_g ((mj_q_iload_n mw_m54 d54_39 rfl).trans (mw_q_calls mw_m54 rfl d54_40 mw_p3_27 mw_m39 rfl (Nat.le_of_ble_eq_true rfl) (Nat.le_of_ble_eq_true rfl) rfl rfl))))))))))))))))))))))))
theorem b54_43 {X : mj_X} {d : Nat} {s : mw_S} {k0 : Nat} {x1 : Int32} {x2 : Int32} {l3 : Option Value} {l4 : Option Value} {xs0 : Int32} (h0 : mw_cl k0 = some 3) : mj_exec X d 54 43 [some (.ref k0), some (.int x1), some (.int x2), l3, l4] [.int xs0] (mw_U s) = if xs0 = 0 then mj_exec X d 54 77 [some (.ref k0), some (.int x1), some (.int x2), l3, l4] [] (mw_U s) else mj_exec X d 54 46 [some (.ref k0), some (.int x1), some (.int x2), l3, l4] [] (mw_U s) := mj_q_if_eq mw_m54 d54_43 rfl
theorem b54_46 {X : mj_X} {d : Nat} {s : mw_S} {k0 : Nat} {x1 : Int32} {x2 : Int32} {l3 : Option Value} {l4 : Option Value} (h0 : mw_cl k0 = some 3) : mj_exec X d 54 46 [some (.ref k0), some (.int x1), some (.int x2), l3, l4] [] (mw_U s) = if mw_in 64 ((nI 16) + x2) = true then if mw_in 64 ((nI 8) + x2) = true then if mw_in 64 ((nI 8) + x1) = true then if mw_in 64 ((nI 8) + x2) = true then mj_exec X d 54 77 [some (.ref k0), some (.int x1), some (.int x2), l3, l4] [] (mw_U (mw_p (mw_p s (k0 + 1) (((nI 16) + x2)).toNatClampNeg (nI 0)) (k0 + 1) (((nI 8) + x2)).toNatClampNeg (((mw_p s (k0 + 1) (((nI 16) + x2)).toNatClampNeg (nI 0)).1 (k0 + 1) (((nI 8) + x2)).toNatClampNeg) ||| ((mw_p s (k0 + 1) (((nI 16) + x2)).toNatClampNeg (nI 0)).1 (k0 + 1) (((nI 8) + x1)).toNatClampNeg)))) else none else none else none else none := (mj_q_aload_n mw_m54 d54_46 rfl (mw_neo h0)).trans ((mw_q_getr mw_m54 d54_47 mw_p3_11 h0 (mw_f3_0 h0)).trans ((mj_q_bipush mw_m54 d54_50 mw_k_bipush_16).trans ((mj_q_iload_n mw_m54 d54_52 rfl).trans ((mj_q_iadd mw_m54 d54_53).trans ((mj_q_iconst mw_m54 d54_54 mw_k_iconst_0).trans ((mw_h_iast mw_m54 d54_55 (mw_a3_0 h0)).trans (mw_g ((mj_q_aload_n mw_m54 d54_56 rfl (mw_neo h0)).trans ((mw_q_getr mw_m54 d54_57 mw_p3_11 h0 (mw_f3_0 h0)).trans ((mj_q_bipush mw_m54 d54_60 mw_k_bipush_8).trans ((mj_q_iload_n mw_m54 d54_62 rfl).trans ((mj_q_iadd mw_m54 d54_63).trans ((mj_q_dup2 mw_m54 d54_64 rfl rfl).trans ((mw_h_iald mw_m54 d54_65 (mw_a3_0 h0)).trans (mw_g ((mj_q_aload_n mw_m54 d54_66 rfl (mw_neo h0)).trans ((mw_q_getr mw_m54 d54_67 mw_p3_11 h0 (mw_f3_0 h0)).trans ((mj_q_bipush mw_m54 d54_70 mw_k_bipush_8).trans ((mj_q_iload_n mw_m54 d54_72 rfl).trans ((mj_q_iadd mw_m54 d54_73).trans ((mw_h_iald mw_m54 d54_74 (mw_a3_0 h0)).trans (mw_g ((mj_q_ior mw_m54 d54_75).trans ((mw_h_iast mw_m54 d54_76 (mw_a3_0 h0)).trans (mw_g (rfl))))))))))))))))))))))))))
theorem b54_77 {X : mj_X} {d : Nat} {s : mw_S} {k0 : Nat} {x1 : Int32} {x2 : Int32} {l3 : Option Value} {l4 : Option Value} (h0 : mw_cl k0 = some 3) : mj_exec X d 54 77 [some (.ref k0), some (.int x1), some (.int x2), l3, l4] [] (mw_U s) = mj_exec X d 54 79 [some (.ref k0), some (.int x1), some (.int x2), some (.int (nI 0)), l4] [] (mw_U s) := (mj_q_iconst mw_m54 d54_77 mw_k_iconst_0).trans (mj_q_istore_n mw_m54 d54_78 (Nat.le_of_ble_eq_true rfl) rfl rfl)
theorem b54_79 {X : mj_X} {d : Nat} {s : mw_S} {k0 : Nat} {x1 : Int32} {x2 : Int32} {x3 : Int32} {l4 : Option Value} (h0 : mw_cl k0 = some 3) : mj_exec X d 54 79 [some (.ref k0), some (.int x1), some (.int x2), some (.int x3), l4] [] (mw_U s) = if (nI 8) ≤ x3 then mj_exec X d 54 134 [some (.ref k0), some (.int x1), some (.int x2), some (.int x3), l4] [] (mw_U s) else mj_exec X d 54 85 [some (.ref k0), some (.int x1), some (.int x2), some (.int x3), l4] [] (mw_U s) := (mj_q_iload_n mw_m54 d54_79 rfl).trans ((mj_q_bipush mw_m54 d54_80 mw_k_bipush_8).trans (mj_q_icmp_ge mw_m54 d54_82 rfl))
theorem b54_85 {X : mj_X} {d : Nat} {s : mw_S} {k0 : Nat} {x1 : Int32} {x2 : Int32} {x3 : Int32} {l4 : Option Value} (h0 : mw_cl k0 = some 3) : mj_exec X (d + 1) 54 85 [some (.ref k0), some (.int x1), some (.int x2), some (.int x3), l4] [] (mw_U s) = (mj_call X d 153 [.int x1, .int x3] (mw_U s)).bind (mj_bk X (d + 1) 54 90 [some (.ref k0), some (.int x1), some (.int x2), some (.int x3), l4] []) := (mj_q_iload_n mw_m54 d54_85 rfl).trans ((mj_q_iload_n mw_m54 d54_86 rfl).trans (mw_q_calln mw_m54 rfl d54_87 mw_p3_48 mw_m153 rfl rfl (Nat.le_of_ble_eq_true rfl) (Nat.le_of_ble_eq_true rfl) rfl rfl))
theorem b54_90 {X : mj_X} {d : Nat} {s : mw_S} {k0 : Nat} {x1 : Int32} {x2 : Int32} {x3 : Int32} {l4 : Option Value} {xs0 : Int32} (h0 : mw_cl k0 = some 3) : mj_exec X (d + 1) 54 90 [some (.ref k0), some (.int x1), some (.int x2), some (.int x3), l4] [.int xs0] (mw_U s) = (mj_call X d 36 [.ref k0, .int xs0] (mw_U s)).bind (mj_bk X (d + 1) 54 98 [some (.ref k0), some (.int x1), some (.int x2), some (.int x3), some (.int xs0)] []) := (mj_q_istore mw_m54 d54_90 (Nat.le_of_ble_eq_true rfl) rfl rfl).trans ((mj_q_aload_n mw_m54 d54_92 rfl (mw_neo h0)).trans ((mj_q_iload mw_m54 d54_93 rfl).trans (mw_q_callv mw_m54 rfl d54_95 mw_p3_52 mw_m36 rfl rfl (Nat.le_of_ble_eq_true rfl) (Nat.le_of_ble_eq_true rfl) rfl (mw_rcv h0) rfl rfl)))
theorem b54_98 {X : mj_X} {d : Nat} {s : mw_S} {k0 : Nat} {x1 : Int32} {x2 : Int32} {x3 : Int32} {x4 : Int32} {xs0 : Int32} (h0 : mw_cl k0 = some 3) : mj_exec X d 54 98 [some (.ref k0), some (.int x1), some (.int x2), some (.int x3), some (.int x4)] [.int xs0] (mw_U s) = if xs0 = 0 then mj_exec X d 54 128 [some (.ref k0), some (.int x1), some (.int x2), some (.int x3), some (.int x4)] [] (mw_U s) else mj_exec X d 54 101 [some (.ref k0), some (.int x1), some (.int x2), some (.int x3), some (.int x4)] [] (mw_U s) := mj_q_if_eq mw_m54 d54_98 rfl
theorem b54_101 {X : mj_X} {d : Nat} {s : mw_S} {k0 : Nat} {x1 : Int32} {x2 : Int32} {x3 : Int32} {x4 : Int32} (h0 : mw_cl k0 = some 3) : mj_exec X d 54 101 [some (.ref k0), some (.int x1), some (.int x2), some (.int x3), some (.int x4)] [] (mw_U s) = if x2 = (-1) then mj_exec X d 54 122 [some (.ref k0), some (.int x1), some (.int x2), some (.int x3), some (.int x4)] [] (mw_U s) else mj_exec X d 54 106 [some (.ref k0), some (.int x1), some (.int x2), some (.int x3), some (.int x4)] [] (mw_U s) := (mj_q_iload_n mw_m54 d54_101 rfl).trans ((mj_q_iconst mw_m54 d54_102 mw_k_iconst_m1).trans (mj_q_icmp_eq mw_m54 d54_103 rfl))
theorem b54_106 {X : mj_X} {d : Nat} {s : mw_S} {k0 : Nat} {x1 : Int32} {x2 : Int32} {x3 : Int32} {x4 : Int32} (h0 : mw_cl k0 = some 3) : mj_exec X d 54 106 [some (.ref k0), some (.int x1), some (.int x2), some (.int x3), some (.int x4)] [] (mw_U s) = if x2 = x3 then mj_exec X d 54 122 [some (.ref k0), some (.int x1), some (.int x2), some (.int x3), some (.int x4)] [] (mw_U s) else mj_exec X d 54 111 [some (.ref k0), some (.int x1), some (.int x2), some (.int x3), some (.int x4)] [] (mw_U s) := (mj_q_iload_n mw_m54 d54_106 rfl).trans ((mj_q_iload_n mw_m54 d54_107 rfl).trans (mj_q_icmp_eq mw_m54 d54_108 rfl))
theorem b54_111 {X : mj_X} {d : Nat} {s : mw_S} {k0 : Nat} {x1 : Int32} {x2 : Int32} {x3 : Int32} {x4 : Int32} (h0 : mw_cl k0 = some 3) : mj_exec X (d + 1) 54 111 [some (.ref k0), some (.int x1), some (.int x2), some (.int x3), some (.int x4)] [] (mw_U s) = (mj_call X d 153 [.int x2, .int x3] (mw_U s)).bind (mj_bk X (d + 1) 54 119 [some (.ref k0), some (.int x1), some (.int x2), some (.int x3), some (.int x4)] [.int x4, .ref k0]) := (mj_q_aload_n mw_m54 d54_111 rfl (mw_neo h0)).trans ((mj_q_iload mw_m54 d54_112 rfl).trans ((mj_q_iload_n mw_m54 d54_114 rfl).trans ((mj_q_iload_n mw_m54 d54_115 rfl).trans (mw_q_calln mw_m54 rfl d54_116 mw_p3_48 mw_m153 rfl rfl (Nat.le_of_ble_eq_true rfl) (Nat.le_of_ble_eq_true rfl) rfl rfl))))
theorem b54_119 {X : mj_X} {d : Nat} {s : mw_S} {k0 : Nat} {x1 : Int32} {x2 : Int32} {x3 : Int32} {x4 : Int32} {ks0 : Nat} {xs1 : Int32} {xs2 : Int32} (h0 : mw_cl k0 = some 3) (hs0 : mw_cl ks0 = some 3) : mj_exec X (d + 1) 54 119 [some (.ref k0), some (.int x1), some (.int x2), some (.int x3), some (.int x4)] [.int xs2, .int xs1, .ref ks0] (mw_U s) = (mj_call X d 56 [.ref ks0, .int xs1, .int xs2] (mw_U s)).bind (mj_bk X (d + 1) 54 122 [some (.ref k0), some (.int x1), some (.int x2), some (.int x3), some (.int x4)] []) := mw_q_callv mw_m54 rfl d54_119 mw_p3_87 mw_m56 rfl rfl (Nat.le_of_ble_eq_true rfl) (Nat.le_of_ble_eq_true rfl) rfl (mw_rcv hs0) rfl rfl
theorem b54_122 {X : mj_X} {d : Nat} {s : mw_S} {k0 : Nat} {x1 : Int32} {x2 : Int32} {x3 : Int32} {x4 : Int32} (h0 : mw_cl k0 = some 3) : mj_exec X (d + 1) 54 122 [some (.ref k0), some (.int x1), some (.int x2), some (.int x3), some (.int x4)] [] (mw_U s) = (mj_call X d 42 [.ref k0, .int x4] (mw_U s)).bind (mj_bk X (d + 1) 54 128 [some (.ref k0), some (.int x1), some (.int x2), some (.int x3), some (.int x4)] []) := (mj_q_aload_n mw_m54 d54_122 rfl (mw_neo h0)).trans ((mj_q_iload mw_m54 d54_123 rfl).trans (mw_q_callv mw_m54 rfl d54_125 mw_p3_83 mw_m42 rfl rfl (Nat.le_of_ble_eq_true rfl) (Nat.le_of_ble_eq_true rfl) rfl (mw_rcv h0) rfl rfl))
theorem b54_128 {X : mj_X} {d : Nat} {s : mw_S} {k0 : Nat} {x1 : Int32} {x2 : Int32} {x3 : Int32} {x4 : Int32} (h0 : mw_cl k0 = some 3) : mj_exec X d 54 128 [some (.ref k0), some (.int x1), some (.int x2), some (.int x3), some (.int x4)] [] (mw_U s) = mj_exec X d 54 79 [some (.ref k0), some (.int x1), some (.int x2), some (.int (x3 + (nI 1))), some (.int x4)] [] (mw_U s) := (mj_q_iinc mw_m54 d54_128 rfl (Nat.le_of_ble_eq_true rfl) rfl mw_k_iconst_1 rfl).trans (mj_q_goto mw_m54 d54_131 rfl)
theorem b54_134 {X : mj_X} {d : Nat} {s : mw_S} {k0 : Nat} {x1 : Int32} {x2 : Int32} {x3 : Int32} {l4 : Option Value} (h0 : mw_cl k0 = some 3) : mj_exec X d 54 134 [some (.ref k0), some (.int x1), some (.int x2), some (.int x3), l4] [] (mw_U s) = some (.inl none, mw_U s) := mj_q_vret mw_m54 d54_134 rfl
/-- WivesQuarrels$Folk.spouse -/
theorem d55_0 : decode prog_5_method_15_code 0 = .ok (.iload_n 1, 1) := by decide +kernel
theorem d55_1 : decode prog_5_method_15_code 1 = .ok (.invokestatic 27, 3) := by decide +kernel
theorem d55_4 : decode prog_5_method_15_code 4 = .ok (.ifCond .eq 17, 3) := by decide +kernel
theorem d55_7 : decode prog_5_method_15_code 7 = .ok (.aload_n 0, 1) := by decide +kernel
theorem d55_8 : decode prog_5_method_15_code 8 = .ok (.getfield 11, 3) := by decide +kernel
theorem d55_11 : decode prog_5_method_15_code 11 = .ok (.bipush 16, 2) := by decide +kernel
theorem d55_13 : decode prog_5_method_15_code 13 = .ok (.iload_n 1, 1) := by decide +kernel
theorem d55_14 : decode prog_5_method_15_code 14 = .ok (.iadd, 1) := by decide +kernel
theorem d55_15 : decode prog_5_method_15_code 15 = .ok (.iaload, 1) := by decide +kernel
theorem d55_16 : decode prog_5_method_15_code 16 = .ok (.iconst 1, 1) := by decide +kernel
theorem d55_17 : decode prog_5_method_15_code 17 = .ok (.isub, 1) := by decide +kernel
theorem d55_18 : decode prog_5_method_15_code 18 = .ok (.goto 4, 3) := by decide +kernel
theorem d55_21 : decode prog_5_method_15_code 21 = .ok (.iconst (-1), 1) := by decide +kernel
theorem d55_22 : decode prog_5_method_15_code 22 = .ok (.ireturn, 1) := by decide +kernel
theorem b55 {X : mj_X} {d : Nat} {w : mj_W} {x0 : Nat} {x1 : Int32} : mj_call X d 55 [.ref x0, .int x1] w = mj_exec X d 55 0 [some (.ref x0), some (.int x1)] [] w := mw_ent mw_m55 (Nat.le_of_ble_eq_true rfl) rfl
theorem b55_0 {X : mj_X} {d : Nat} {s : mw_S} {k0 : Nat} {x1 : Int32} (h0 : mw_cl k0 = some 3) : mj_exec X (d + 1) 55 0 [some (.ref k0), some (.int x1)] [] (mw_U s) = (mj_call X d 39 [.int x1] (mw_U s)).bind (mj_bk X (d + 1) 55 4 [some (.ref k0), some (.int x1)] []) := (mj_q_iload_n mw_m55 d55_0 rfl).trans (mw_q_calls mw_m55 rfl d55_1 mw_p3_27 mw_m39 rfl (Nat.le_of_ble_eq_true rfl) (Nat.le_of_ble_eq_true rfl) rfl rfl)
theorem b55_4 {X : mj_X} {d : Nat} {s : mw_S} {k0 : Nat} {x1 : Int32} {xs0 : Int32} (h0 : mw_cl k0 = some 3) : mj_exec X d 55 4 [some (.ref k0), some (.int x1)] [.int xs0] (mw_U s) = if xs0 = 0 then mj_exec X d 55 21 [some (.ref k0), some (.int x1)] [] (mw_U s) else mj_exec X d 55 7 [some (.ref k0), some (.int x1)] [] (mw_U s) := mj_q_if_eq mw_m55 d55_4 rfl
theorem b55_7 {X : mj_X} {d : Nat} {s : mw_S} {k0 : Nat} {x1 : Int32} (h0 : mw_cl k0 = some 3) : mj_exec X d 55 7 [some (.ref k0), some (.int x1)] [] (mw_U s) = if mw_in 64 ((nI 16) + x1) = true then mj_exec X d 55 22 [some (.ref k0), some (.int x1)] [.int ((s.1 (k0 + 1) (((nI 16) + x1)).toNatClampNeg) - (nI 1))] (mw_U s) else none := (mj_q_aload_n mw_m55 d55_7 rfl (mw_neo h0)).trans ((mw_q_getr mw_m55 d55_8 mw_p3_11 h0 (mw_f3_0 h0)).trans ((mj_q_bipush mw_m55 d55_11 mw_k_bipush_16).trans ((mj_q_iload_n mw_m55 d55_13 rfl).trans ((mj_q_iadd mw_m55 d55_14).trans ((mw_h_iald mw_m55 d55_15 (mw_a3_0 h0)).trans (mw_g ((mj_q_iconst mw_m55 d55_16 mw_k_iconst_1).trans ((mj_q_isub mw_m55 d55_17).trans (mj_q_goto mw_m55 d55_18 rfl)))))))))
theorem b55_21 {X : mj_X} {d : Nat} {s : mw_S} {k0 : Nat} {x1 : Int32} (h0 : mw_cl k0 = some 3) : mj_exec X d 55 21 [some (.ref k0), some (.int x1)] [] (mw_U s) = mj_exec X d 55 22 [some (.ref k0), some (.int x1)] [.int (-1)] (mw_U s) := mj_q_iconst mw_m55 d55_21 mw_k_iconst_m1
theorem b55_22 {X : mj_X} {d : Nat} {s : mw_S} {k0 : Nat} {x1 : Int32} {xs0 : Int32} (h0 : mw_cl k0 = some 3) : mj_exec X d 55 22 [some (.ref k0), some (.int x1)] [.int xs0] (mw_U s) = some (.inl (some (.int xs0)), mw_U s) := mj_q_iret mw_m55 d55_22 rfl
/-- WivesQuarrels$Folk.inherit -/
theorem d56_0 : decode prog_5_method_40_code 0 = .ok (.aload_n 0, 1) := by decide +kernel
theorem d56_1 : decode prog_5_method_40_code 1 = .ok (.iload_n 2, 1) := by decide +kernel
theorem d56_2 : decode prog_5_method_40_code 2 = .ok (.invokevirtual 52, 3) := by decide +kernel
theorem d56_5 : decode prog_5_method_40_code 5 = .ok (.ifCond .eq 27, 3) := by decide +kernel
theorem d56_8 : decode prog_5_method_40_code 8 = .ok (.aload_n 0, 1) := by decide +kernel
theorem d56_9 : decode prog_5_method_40_code 9 = .ok (.iload_n 2, 1) := by decide +kernel
theorem d56_10 : decode prog_5_method_40_code 10 = .ok (.bipush 99, 2) := by decide +kernel
theorem d56_12 : decode prog_5_method_40_code 12 = .ok (.aload_n 0, 1) := by decide +kernel
theorem d56_13 : decode prog_5_method_40_code 13 = .ok (.iload_n 2, 1) := by decide +kernel
theorem d56_14 : decode prog_5_method_40_code 14 = .ok (.invokevirtual 35, 3) := by decide +kernel
theorem d56_17 : decode prog_5_method_40_code 17 = .ok (.aload_n 0, 1) := by decide +kernel
theorem d56_18 : decode prog_5_method_40_code 18 = .ok (.iload_n 1, 1) := by decide +kernel
theorem d56_19 : decode prog_5_method_40_code 19 = .ok (.invokevirtual 35, 3) := by decide +kernel
theorem d56_22 : decode prog_5_method_40_code 22 = .ok (.iadd, 1) := by decide +kernel
theorem d56_23 : decode prog_5_method_40_code 23 = .ok (.invokestatic 90, 3) := by decide +kernel
theorem d56_26 : decode prog_5_method_40_code 26 = .ok (.invokevirtual 95, 3) := by decide +kernel
theorem d56_29 : decode prog_5_method_40_code 29 = .ok (.goto 18, 3) := by decide +kernel
theorem d56_32 : decode prog_5_method_40_code 32 = .ok (.aload_n 0, 1) := by decide +kernel
theorem d56_33 : decode prog_5_method_40_code 33 = .ok (.iload_n 2, 1) := by decide +kernel
theorem d56_34 : decode prog_5_method_40_code 34 = .ok (.aload_n 0, 1) := by decide +kernel
theorem d56_35 : decode prog_5_method_40_code 35 = .ok (.iload_n 1, 1) := by decide +kernel
theorem d56_36 : decode prog_5_method_40_code 36 = .ok (.invokevirtual 35, 3) := by decide +kernel
theorem d56_39 : decode prog_5_method_40_code 39 = .ok (.aload_n 0, 1) := by decide +kernel
theorem d56_40 : decode prog_5_method_40_code 40 = .ok (.iload_n 1, 1) := by decide +kernel
theorem d56_41 : decode prog_5_method_40_code 41 = .ok (.invokevirtual 55, 3) := by decide +kernel
theorem d56_44 : decode prog_5_method_40_code 44 = .ok (.invokevirtual 98, 3) := by decide +kernel
theorem d56_47 : decode prog_5_method_40_code 47 = .ok (.return_, 1) := by decide +kernel
theorem b56 {X : mj_X} {d : Nat} {w : mj_W} {x0 : Nat} {x1 : Int32} {x2 : Int32} : mj_call X d 56 [.ref x0, .int x1, .int x2] w = mj_exec X d 56 0 [some (.ref x0), some (.int x1), some (.int x2)] [] w := mw_ent mw_m56 (Nat.le_of_ble_eq_true rfl) rfl
theorem b56_0 {X : mj_X} {d : Nat} {s : mw_S} {k0 : Nat} {x1 : Int32} {x2 : Int32} (h0 : mw_cl k0 = some 3) : mj_exec X (d + 1) 56 0 [some (.ref k0), some (.int x1), some (.int x2)] [] (mw_U s) = (mj_call X d 36 [.ref k0, .int x2] (mw_U s)).bind (mj_bk X (d + 1) 56 5 [some (.ref k0), some (.int x1), some (.int x2)] []) := (mj_q_aload_n mw_m56 d56_0 rfl (mw_neo h0)).trans ((mj_q_iload_n mw_m56 d56_1 rfl).trans (mw_q_callv mw_m56 rfl d56_2 mw_p3_52 mw_m36 rfl rfl (Nat.le_of_ble_eq_true rfl) (Nat.le_of_ble_eq_true rfl) rfl (mw_rcv h0) rfl rfl))
theorem b56_5 {X : mj_X} {d : Nat} {s : mw_S} {k0 : Nat} {x1 : Int32} {x2 : Int32} {xs0 : Int32} (h0 : mw_cl k0 = some 3) : mj_exec X d 56 5 [some (.ref k0), some (.int x1), some (.int x2)] [.int xs0] (mw_U s) = if xs0 = 0 then mj_exec X d 56 32 [some (.ref k0), some (.int x1), some (.int x2)] [] (mw_U s) else mj_exec X d 56 8 [some (.ref k0), some (.int x1), some (.int x2)] [] (mw_U s) := mj_q_if_eq mw_m56 d56_5 rfl
theorem b56_8 {X : mj_X} {d : Nat} {s : mw_S} {k0 : Nat} {x1 : Int32} {x2 : Int32} (h0 : mw_cl k0 = some 3) : mj_exec X (d + 1) 56 8 [some (.ref k0), some (.int x1), some (.int x2)] [] (mw_U s) = (mj_call X d 37 [.ref k0, .int x2] (mw_U s)).bind (mj_bk X (d + 1) 56 17 [some (.ref k0), some (.int x1), some (.int x2)] [.int (nI 99), .int x2, .ref k0]) := (mj_q_aload_n mw_m56 d56_8 rfl (mw_neo h0)).trans ((mj_q_iload_n mw_m56 d56_9 rfl).trans ((mj_q_bipush mw_m56 d56_10 mw_k_bipush_99).trans ((mj_q_aload_n mw_m56 d56_12 rfl (mw_neo h0)).trans ((mj_q_iload_n mw_m56 d56_13 rfl).trans (mw_q_callv mw_m56 rfl d56_14 mw_p3_35 mw_m37 rfl rfl (Nat.le_of_ble_eq_true rfl) (Nat.le_of_ble_eq_true rfl) rfl (mw_rcv h0) rfl rfl)))))
theorem b56_17 {X : mj_X} {d : Nat} {s : mw_S} {k0 : Nat} {x1 : Int32} {x2 : Int32} {ks0 : Nat} {xs1 : Int32} {xs2 : Int32} {xs3 : Int32} (h0 : mw_cl k0 = some 3) (hs0 : mw_cl ks0 = some 3) : mj_exec X (d + 1) 56 17 [some (.ref k0), some (.int x1), some (.int x2)] [.int xs3, .int xs2, .int xs1, .ref ks0] (mw_U s) = (mj_call X d 37 [.ref k0, .int x1] (mw_U s)).bind (mj_bk X (d + 1) 56 22 [some (.ref k0), some (.int x1), some (.int x2)] [.int xs3, .int xs2, .int xs1, .ref ks0]) := (mj_q_aload_n mw_m56 d56_17 rfl (mw_neo h0)).trans ((mj_q_iload_n mw_m56 d56_18 rfl).trans (mw_q_callv mw_m56 rfl d56_19 mw_p3_35 mw_m37 rfl rfl (Nat.le_of_ble_eq_true rfl) (Nat.le_of_ble_eq_true rfl) rfl (mw_rcv h0) rfl rfl))
theorem b56_22 {X : mj_X} {d : Nat} {s : mw_S} {k0 : Nat} {x1 : Int32} {x2 : Int32} {ks0 : Nat} {xs1 : Int32} {xs2 : Int32} {xs3 : Int32} {xs4 : Int32} (h0 : mw_cl k0 = some 3) (hs0 : mw_cl ks0 = some 3) : mj_exec X (d + 1) 56 22 [some (.ref k0), some (.int x1), some (.int x2)] [.int xs4, .int xs3, .int xs2, .int xs1, .ref ks0] (mw_U s) = (mj_call X d 43 [.ref ks0, .int xs1, .int (mw_min xs2 (xs3 + xs4))] (mw_U s)).bind (mj_bk X (d + 1) 56 29 [some (.ref k0), some (.int x1), some (.int x2)] []) := (mj_q_iadd mw_m56 d56_22).trans ((mj_q_min mw_m56 d56_23 mw_p3_90 (Nat.le_of_ble_eq_true rfl)).trans (mw_q_callv mw_m56 rfl d56_26 mw_p3_95 mw_m43 rfl rfl (Nat.le_of_ble_eq_true rfl) (Nat.le_of_ble_eq_true rfl) rfl (mw_rcv hs0) rfl rfl))
theorem b56_29 {X : mj_X} {d : Nat} {s : mw_S} {k0 : Nat} {x1 : Int32} {x2 : Int32} (h0 : mw_cl k0 = some 3) : mj_exec X d 56 29 [some (.ref k0), some (.int x1), some (.int x2)] [] (mw_U s) = mj_exec X d 56 47 [some (.ref k0), some (.int x1), some (.int x2)] [] (mw_U s) := mj_q_goto mw_m56 d56_29 rfl
theorem b56_32 {X : mj_X} {d : Nat} {s : mw_S} {k0 : Nat} {x1 : Int32} {x2 : Int32} (h0 : mw_cl k0 = some 3) : mj_exec X (d + 1) 56 32 [some (.ref k0), some (.int x1), some (.int x2)] [] (mw_U s) = (mj_call X d 37 [.ref k0, .int x1] (mw_U s)).bind (mj_bk X (d + 1) 56 39 [some (.ref k0), some (.int x1), some (.int x2)] [.int x2, .ref k0]) := (mj_q_aload_n mw_m56 d56_32 rfl (mw_neo h0)).trans ((mj_q_iload_n mw_m56 d56_33 rfl).trans ((mj_q_aload_n mw_m56 d56_34 rfl (mw_neo h0)).trans ((mj_q_iload_n mw_m56 d56_35 rfl).trans (mw_q_callv mw_m56 rfl d56_36 mw_p3_35 mw_m37 rfl rfl (Nat.le_of_ble_eq_true rfl) (Nat.le_of_ble_eq_true rfl) rfl (mw_rcv h0) rfl rfl))))
theorem b56_39 {X : mj_X} {d : Nat} {s : mw_S} {k0 : Nat} {x1 : Int32} {x2 : Int32} {ks0 : Nat} {xs1 : Int32} {xs2 : Int32} (h0 : mw_cl k0 = some 3) (hs0 : mw_cl ks0 = some 3) : mj_exec X (d + 1) 56 39 [some (.ref k0), some (.int x1), some (.int x2)] [.int xs2, .int xs1, .ref ks0] (mw_U s) = (mj_call X d 52 [.ref k0, .int x1] (mw_U s)).bind (mj_bk X (d + 1) 56 44 [some (.ref k0), some (.int x1), some (.int x2)] [.int xs2, .int xs1, .ref ks0]) := (mj_q_aload_n mw_m56 d56_39 rfl (mw_neo h0)).trans ((mj_q_iload_n mw_m56 d56_40 rfl).trans (mw_q_callv mw_m56 rfl d56_41 mw_p3_55 mw_m52 rfl rfl (Nat.le_of_ble_eq_true rfl) (Nat.le_of_ble_eq_true rfl) rfl (mw_rcv h0) rfl rfl))
theorem b56_44 {X : mj_X} {d : Nat} {s : mw_S} {k0 : Nat} {x1 : Int32} {x2 : Int32} {ks0 : Nat} {xs1 : Int32} {xs2 : Int32} {xs3 : Int32} (h0 : mw_cl k0 = some 3) (hs0 : mw_cl ks0 = some 3) : mj_exec X (d + 1) 56 44 [some (.ref k0), some (.int x1), some (.int x2)] [.int xs3, .int xs2, .int xs1, .ref ks0] (mw_U s) = (mj_call X d 57 [.ref ks0, .int xs1, .int xs2, .int xs3] (mw_U s)).bind (mj_bk X (d + 1) 56 47 [some (.ref k0), some (.int x1), some (.int x2)] []) := mw_q_callv mw_m56 rfl d56_44 mw_p3_98 mw_m57 rfl rfl (Nat.le_of_ble_eq_true rfl) (Nat.le_of_ble_eq_true rfl) rfl (mw_rcv hs0) rfl rfl
theorem b56_47 {X : mj_X} {d : Nat} {s : mw_S} {k0 : Nat} {x1 : Int32} {x2 : Int32} (h0 : mw_cl k0 = some 3) : mj_exec X d 56 47 [some (.ref k0), some (.int x1), some (.int x2)] [] (mw_U s) = some (.inl none, mw_U s) := mj_q_vret mw_m56 d56_47 rfl
/-- WivesQuarrels$Folk.begin -/
theorem d57_0 : decode prog_5_method_22_code 0 = .ok (.iload_n 1, 1) := by decide +kernel
theorem d57_1 : decode prog_5_method_22_code 1 = .ok (.ifCond .lt 70, 3) := by decide +kernel
theorem d57_4 : decode prog_5_method_22_code 4 = .ok (.iload_n 1, 1) := by decide +kernel
theorem d57_5 : decode prog_5_method_22_code 5 = .ok (.bipush 28, 2) := by decide +kernel
theorem d57_7 : decode prog_5_method_22_code 7 = .ok (.if_icmp .ge 64, 3) := by decide +kernel
theorem d57_10 : decode prog_5_method_22_code 10 = .ok (.aload_n 0, 1) := by decide +kernel
theorem d57_11 : decode prog_5_method_22_code 11 = .ok (.getfield 11, 3) := by decide +kernel
theorem d57_14 : decode prog_5_method_22_code 14 = .ok (.bipush 24, 2) := by decide +kernel
theorem d57_16 : decode prog_5_method_22_code 16 = .ok (.iload_n 1, 1) := by decide +kernel
theorem d57_17 : decode prog_5_method_22_code 17 = .ok (.iadd, 1) := by decide +kernel
theorem d57_18 : decode prog_5_method_22_code 18 = .ok (.iload_n 2, 1) := by decide +kernel
theorem d57_19 : decode prog_5_method_22_code 19 = .ok (.iload_n 3, 1) := by decide +kernel
theorem d57_20 : decode prog_5_method_22_code 20 = .ok (.bipush 7, 2) := by decide +kernel
theorem d57_22 : decode prog_5_method_22_code 22 = .ok (.ishl, 1) := by decide +kernel
theorem d57_23 : decode prog_5_method_22_code 23 = .ok (.ior, 1) := by decide +kernel
theorem d57_24 : decode prog_5_method_22_code 24 = .ok (.iastore, 1) := by decide +kernel
theorem d57_25 : decode prog_5_method_22_code 25 = .ok (.aload_n 0, 1) := by decide +kernel
theorem d57_26 : decode prog_5_method_22_code 26 = .ok (.getfield 11, 3) := by decide +kernel
theorem d57_29 : decode prog_5_method_22_code 29 = .ok (.bipush 56, 2) := by decide +kernel
theorem d57_31 : decode prog_5_method_22_code 31 = .ok (.getstatic 39, 3) := by decide +kernel
theorem d57_34 : decode prog_5_method_22_code 34 = .ok (.iload_n 1, 1) := by decide +kernel
theorem d57_35 : decode prog_5_method_22_code 35 = .ok (.iaload, 1) := by decide +kernel
theorem d57_36 : decode prog_5_method_22_code 36 = .ok (.iadd, 1) := by decide +kernel
theorem d57_37 : decode prog_5_method_22_code 37 = .ok (.dup2, 1) := by decide +kernel
theorem d57_38 : decode prog_5_method_22_code 38 = .ok (.iaload, 1) := by decide +kernel
theorem d57_39 : decode prog_5_method_22_code 39 = .ok (.iconst 1, 1) := by decide +kernel
theorem d57_40 : decode prog_5_method_22_code 40 = .ok (.getstatic 42, 3) := by decide +kernel
theorem d57_43 : decode prog_5_method_22_code 43 = .ok (.iload_n 1, 1) := by decide +kernel
theorem d57_44 : decode prog_5_method_22_code 44 = .ok (.iaload, 1) := by decide +kernel
theorem d57_45 : decode prog_5_method_22_code 45 = .ok (.ishl, 1) := by decide +kernel
theorem d57_46 : decode prog_5_method_22_code 46 = .ok (.ior, 1) := by decide +kernel
theorem d57_47 : decode prog_5_method_22_code 47 = .ok (.iastore, 1) := by decide +kernel
theorem d57_48 : decode prog_5_method_22_code 48 = .ok (.aload_n 0, 1) := by decide +kernel
theorem d57_49 : decode prog_5_method_22_code 49 = .ok (.getfield 11, 3) := by decide +kernel
theorem d57_52 : decode prog_5_method_22_code 52 = .ok (.bipush 56, 2) := by decide +kernel
theorem d57_54 : decode prog_5_method_22_code 54 = .ok (.getstatic 42, 3) := by decide +kernel
theorem d57_57 : decode prog_5_method_22_code 57 = .ok (.iload_n 1, 1) := by decide +kernel
theorem d57_58 : decode prog_5_method_22_code 58 = .ok (.iaload, 1) := by decide +kernel
theorem d57_59 : decode prog_5_method_22_code 59 = .ok (.iadd, 1) := by decide +kernel
theorem d57_60 : decode prog_5_method_22_code 60 = .ok (.dup2, 1) := by decide +kernel
theorem d57_61 : decode prog_5_method_22_code 61 = .ok (.iaload, 1) := by decide +kernel
theorem d57_62 : decode prog_5_method_22_code 62 = .ok (.iconst 1, 1) := by decide +kernel
theorem d57_63 : decode prog_5_method_22_code 63 = .ok (.getstatic 39, 3) := by decide +kernel
theorem d57_66 : decode prog_5_method_22_code 66 = .ok (.iload_n 1, 1) := by decide +kernel
theorem d57_67 : decode prog_5_method_22_code 67 = .ok (.iaload, 1) := by decide +kernel
theorem d57_68 : decode prog_5_method_22_code 68 = .ok (.ishl, 1) := by decide +kernel
theorem d57_69 : decode prog_5_method_22_code 69 = .ok (.ior, 1) := by decide +kernel
theorem d57_70 : decode prog_5_method_22_code 70 = .ok (.iastore, 1) := by decide +kernel
theorem d57_71 : decode prog_5_method_22_code 71 = .ok (.return_, 1) := by decide +kernel
theorem b57 {X : mj_X} {d : Nat} {w : mj_W} {x0 : Nat} {x1 : Int32} {x2 : Int32} {x3 : Int32} : mj_call X d 57 [.ref x0, .int x1, .int x2, .int x3] w = mj_exec X d 57 0 [some (.ref x0), some (.int x1), some (.int x2), some (.int x3)] [] w := mw_ent mw_m57 (Nat.le_of_ble_eq_true rfl) rfl
theorem b57_0 {X : mj_X} {d : Nat} {s : mw_S} {k0 : Nat} {x1 : Int32} {x2 : Int32} {x3 : Int32} (h0 : mw_cl k0 = some 3) : mj_exec X d 57 0 [some (.ref k0), some (.int x1), some (.int x2), some (.int x3)] [] (mw_U s) = if x1 < 0 then mj_exec X d 57 71 [some (.ref k0), some (.int x1), some (.int x2), some (.int x3)] [] (mw_U s) else mj_exec X d 57 4 [some (.ref k0), some (.int x1), some (.int x2), some (.int x3)] [] (mw_U s) := (mj_q_iload_n mw_m57 d57_0 rfl).trans (mj_q_if_lt mw_m57 d57_1 rfl)
theorem b57_4 {X : mj_X} {d : Nat} {s : mw_S} {k0 : Nat} {x1 : Int32} {x2 : Int32} {x3 : Int32} (h0 : mw_cl k0 = some 3) : mj_exec X d 57 4 [some (.ref k0), some (.int x1), some (.int x2), some (.int x3)] [] (mw_U s) = if (nI 28) ≤ x1 then mj_exec X d 57 71 [some (.ref k0), some (.int x1), some (.int x2), some (.int x3)] [] (mw_U s) else mj_exec X d 57 10 [some (.ref k0), some (.int x1), some (.int x2), some (.int x3)] [] (mw_U s) := (mj_q_iload_n mw_m57 d57_4 rfl).trans ((mj_q_bipush mw_m57 d57_5 mw_k_bipush_28).trans (mj_q_icmp_ge mw_m57 d57_7 rfl))
theorem b57_10 {X : mj_X} {d : Nat} {s : mw_S} {k0 : Nat} {x1 : Int32} {x2 : Int32} {x3 : Int32} (h0 : mw_cl k0 = some 3) : mj_exec X d 57 10 [some (.ref k0), some (.int x1), some (.int x2), some (.int x3)] [] (mw_U s) = if mw_in 64 ((nI 24) + x1) = true then if mw_in 28 x1 = true then if mw_in 64 ((nI 56) + (mw_les (x1).toNatClampNeg)) = true then if mw_in 28 x1 = true then if mw_in 64 ((nI 56) + (mw_les (x1).toNatClampNeg)) = true then if mw_in 28 x1 = true then if mw_in 64 ((nI 56) + (mw_gre (x1).toNatClampNeg)) = true then if mw_in 28 x1 = true then if mw_in 64 ((nI 56) + (mw_gre (x1).toNatClampNeg)) = true then mj_exec X d 57 71 [some (.ref k0), some (.int x1), some (.int x2), some (.int x3)] [] (mw_U (mw_p (mw_p (mw_p s (k0 + 1) (((nI 24) + x1)).toNatClampNeg (x2 ||| (x3 <<< ((nI 7) &&& 31)))) (k0 + 1) (((nI 56) + (mw_les (x1).toNatClampNeg))).toNatClampNeg (((mw_p s (k0 + 1) (((nI 24) + x1)).toNatClampNeg (x2 ||| (x3 <<< ((nI 7) &&& 31)))).1 (k0 + 1) (((nI 56) + (mw_les (x1).toNatClampNeg))).toNatClampNeg) ||| ((nI 1) <<< ((mw_gre (x1).toNatClampNeg) &&& 31)))) (k0 + 1) (((nI 56) + (mw_gre (x1).toNatClampNeg))).toNatClampNeg (((mw_p (mw_p s (k0 + 1) (((nI 24) + x1)).toNatClampNeg (x2 ||| (x3 <<< ((nI 7) &&& 31)))) (k0 + 1) (((nI 56) + (mw_les (x1).toNatClampNeg))).toNatClampNeg (((mw_p s (k0 + 1) (((nI 24) + x1)).toNatClampNeg (x2 ||| (x3 <<< ((nI 7) &&& 31)))).1 (k0 + 1) (((nI 56) + (mw_les (x1).toNatClampNeg))).toNatClampNeg) ||| ((nI 1) <<< ((mw_gre (x1).toNatClampNeg) &&& 31)))).1 (k0 + 1) (((nI 56) + (mw_gre (x1).toNatClampNeg))).toNatClampNeg) ||| ((nI 1) <<< ((mw_les (x1).toNatClampNeg) &&& 31))))) else none else none else none else none else none else none else none else none else none := (mj_q_aload_n mw_m57 d57_10 rfl (mw_neo h0)).trans ((mw_q_getr mw_m57 d57_11 mw_p3_11 h0 (mw_f3_0 h0)).trans ((mj_q_bipush mw_m57 d57_14 mw_k_bipush_24).trans ((mj_q_iload_n mw_m57 d57_16 rfl).trans ((mj_q_iadd mw_m57 d57_17).trans ((mj_q_iload_n mw_m57 d57_18 rfl).trans ((mj_q_iload_n mw_m57 d57_19 rfl).trans ((mj_q_bipush mw_m57 d57_20 mw_k_bipush_7).trans ((mj_q_ishl mw_m57 d57_22).trans ((mj_q_ior mw_m57 d57_23).trans ((mw_h_iast mw_m57 d57_24 (mw_a3_0 h0)).trans (mw_g ((mj_q_aload_n mw_m57 d57_25 rfl (mw_neo h0)).trans ((mw_q_getr mw_m57 d57_26 mw_p3_11 h0 (mw_f3_0 h0)).trans ((mj_q_bipush mw_m57 d57_29 mw_k_bipush_56).trans ((mj_q_getsN mw_m57 d57_31 mw_p3_39).trans ((mj_q_iload_n mw_m57 d57_34 rfl).trans ((mw_h_iakd mw_m57 d57_35 (by decide) (mw_ka0 X)).trans (mw_g ((mj_q_iadd mw_m57 d57_36).trans ((mj_q_dup2 mw_m57 d57_37 rfl rfl).trans ((mw_h_iald mw_m57 d57_38 (mw_a3_0 h0)).trans (mw_g ((mj_q_iconst mw_m57 d57_39 mw_k_iconst_1).trans ((mj_q_getsN mw_m57 d57_40 mw_p3_42).trans ((mj_q_iload_n mw_m57 d57_43 rfl).trans ((mw_h_iakd mw_m57 d57_44 (by decide) (mw_ka1 X)).trans (mw_g ((mj_q_ishl mw_m57 d57_45).trans ((mj_q_ior mw_m57 d57_46).trans ((mw_h_iast mw_m57 d57_47 (mw_a3_0 h0)).trans (mw_g ((mj_q_aload_n mw_m57 d57_48 rfl (mw_neo h0)).trans ((mw_q_getr mw_m57 d57_49 mw_p3_11 h0 (mw_f3_0 h0)).trans ((mj_q_bipush mw_m57 d57_52 mw_k_bipush_56).trans ((mj_q_getsN mw_m57 d57_54 mw_p3_42).trans ((mj_q_iload_n mw_m57 d57_57 rfl).trans ((mw_h_iakd mw_m57 d57_58 (by decide) (mw_ka1 X)).trans (mw_g ((mj_q_iadd mw_m57 d57_59).trans ((mj_q_dup2 mw_m57 d57_60 rfl rfl).trans ((mw_h_iald mw_m57 d57_61 (mw_a3_0 h0)).trans (mw_g ((mj_q_iconst mw_m57 d57_62 mw_k_iconst_1).trans ((mj_q_getsN mw_m57 d57_63 mw_p3_39).trans ((mj_q_iload_n mw_m57 d57_66 rfl).trans ((mw_h_iakd mw_m57 d57_67 (by decide) (mw_ka0 X)).trans (mw_g ((mj_q_ishl mw_m57 d57_68).trans ((mj_q_ior mw_m57 d57_69).trans ((mw_h_iast mw_m57 d57_70 (mw_a3_0 h0)).trans (mw_g (rfl))))))))))))))))))))))))))))))))))))))))))))))))))))
theorem b57_71 {X : mj_X} {d : Nat} {s : mw_S} {k0 : Nat} {x1 : Int32} {x2 : Int32} {x3 : Int32} (h0 : mw_cl k0 = some 3) : mj_exec X d 57 71 [some (.ref k0), some (.int x1), some (.int x2), some (.int x3)] [] (mw_U s) = some (.inl none, mw_U s) := mj_q_vret mw_m57 d57_71 rfl
/-- WivesQuarrels$Folk.canSettle -/
theorem d58_0 : decode prog_5_method_31_code 0 = .ok (.aload_n 0, 1) := by decide +kernel
theorem d58_1 : decode prog_5_method_31_code 1 = .ok (.iload_n 1, 1) := by decide +kernel
theorem d58_2 : decode prog_5_method_31_code 2 = .ok (.invokevirtual 52, 3) := by decide +kernel
theorem d58_5 : decode prog_5_method_31_code 5 = .ok (.ifCond .ne 5, 3) := by decide +kernel
theorem d58_8 : decode prog_5_method_31_code 8 = .ok (.iconst 0, 1) := by decide +kernel
theorem d58_9 : decode prog_5_method_31_code 9 = .ok (.ireturn, 1) := by decide +kernel
theorem d58_10 : decode prog_5_method_31_code 10 = .ok (.aload_n 0, 1) := by decide +kernel
theorem d58_11 : decode prog_5_method_31_code 11 = .ok (.getfield 11, 3) := by decide +kernel
theorem d58_14 : decode prog_5_method_31_code 14 = .ok (.bipush 53, 2) := by decide +kernel
theorem d58_16 : decode prog_5_method_31_code 16 = .ok (.iaload, 1) := by decide +kernel
theorem d58_17 : decode prog_5_method_31_code 17 = .ok (.aload_n 0, 1) := by decide +kernel
theorem d58_18 : decode prog_5_method_31_code 18 = .ok (.getfield 11, 3) := by decide +kernel
theorem d58_21 : decode prog_5_method_31_code 21 = .ok (.bipush 52, 2) := by decide +kernel
theorem d58_23 : decode prog_5_method_31_code 23 = .ok (.iaload, 1) := by decide +kernel
theorem d58_24 : decode prog_5_method_31_code 24 = .ok (.iand, 1) := by decide +kernel
theorem d58_25 : decode prog_5_method_31_code 25 = .ok (.iconst 1, 1) := by decide +kernel
theorem d58_26 : decode prog_5_method_31_code 26 = .ok (.getstatic 39, 3) := by decide +kernel
theorem d58_29 : decode prog_5_method_31_code 29 = .ok (.iload_n 1, 1) := by decide +kernel
theorem d58_30 : decode prog_5_method_31_code 30 = .ok (.iaload, 1) := by decide +kernel
theorem d58_31 : decode prog_5_method_31_code 31 = .ok (.ishl, 1) := by decide +kernel
theorem d58_32 : decode prog_5_method_31_code 32 = .ok (.ior, 1) := by decide +kernel
theorem d58_33 : decode prog_5_method_31_code 33 = .ok (.iconst 1, 1) := by decide +kernel
theorem d58_34 : decode prog_5_method_31_code 34 = .ok (.getstatic 42, 3) := by decide +kernel
theorem d58_37 : decode prog_5_method_31_code 37 = .ok (.iload_n 1, 1) := by decide +kernel
theorem d58_38 : decode prog_5_method_31_code 38 = .ok (.iaload, 1) := by decide +kernel
theorem d58_39 : decode prog_5_method_31_code 39 = .ok (.ishl, 1) := by decide +kernel
theorem d58_40 : decode prog_5_method_31_code 40 = .ok (.ior, 1) := by decide +kernel
theorem d58_41 : decode prog_5_method_31_code 41 = .ok (.istore_n 2, 1) := by decide +kernel
theorem d58_42 : decode prog_5_method_31_code 42 = .ok (.aload_n 0, 1) := by decide +kernel
theorem d58_43 : decode prog_5_method_31_code 43 = .ok (.iload_n 1, 1) := by decide +kernel
theorem d58_44 : decode prog_5_method_31_code 44 = .ok (.invokevirtual 55, 3) := by decide +kernel
theorem d58_47 : decode prog_5_method_31_code 47 = .ok (.aload_n 0, 1) := by decide +kernel
theorem d58_48 : decode prog_5_method_31_code 48 = .ok (.iload_n 2, 1) := by decide +kernel
theorem d58_49 : decode prog_5_method_31_code 49 = .ok (.invokevirtual 58, 3) := by decide +kernel
theorem d58_52 : decode prog_5_method_31_code 52 = .ok (.invokestatic 31, 3) := by decide +kernel
theorem d58_55 : decode prog_5_method_31_code 55 = .ok (.ireturn, 1) := by decide +kernel
theorem b58 {X : mj_X} {d : Nat} {w : mj_W} {x0 : Nat} {x1 : Int32} : mj_call X d 58 [.ref x0, .int x1] w = mj_exec X d 58 0 [some (.ref x0), some (.int x1), none] [] w := mw_ent mw_m58 (Nat.le_of_ble_eq_true rfl) rfl
theorem b58_0 {X : mj_X} {d : Nat} {s : mw_S} {k0 : Nat} {x1 : Int32} {l2 : Option Value} (h0 : mw_cl k0 = some 3) : mj_exec X (d + 1) 58 0 [some (.ref k0), some (.int x1), l2] [] (mw_U s) = (mj_call X d 36 [.ref k0, .int x1] (mw_U s)).bind (mj_bk X (d + 1) 58 5 [some (.ref k0), some (.int x1), l2] []) := (mj_q_aload_n mw_m58 d58_0 rfl (mw_neo h0)).trans ((mj_q_iload_n mw_m58 d58_1 rfl).trans (mw_q_callv mw_m58 rfl d58_2 mw_p3_52 mw_m36 rfl rfl (Nat.le_of_ble_eq_true rfl) (Nat.le_of_ble_eq_true rfl) rfl (mw_rcv h0) rfl rfl))
theorem b58_5 {X : mj_X} {d : Nat} {s : mw_S} {k0 : Nat} {x1 : Int32} {l2 : Option Value} {xs0 : Int32} (h0 : mw_cl k0 = some 3) : mj_exec X d 58 5 [some (.ref k0), some (.int x1), l2] [.int xs0] (mw_U s) = if xs0 = 0 then mj_exec X d 58 8 [some (.ref k0), some (.int x1), l2] [] (mw_U s) else mj_exec X d 58 10 [some (.ref k0), some (.int x1), l2] [] (mw_U s) := mj_q_if_ne mw_m58 d58_5 rfl
theorem b58_8 {X : mj_X} {d : Nat} {s : mw_S} {k0 : Nat} {x1 : Int32} {l2 : Option Value} (h0 : mw_cl k0 = some 3) : mj_exec X d 58 8 [some (.ref k0), some (.int x1), l2] [] (mw_U s) = some (.inl (some (.int (nI 0))), mw_U s) := (mj_q_iconst mw_m58 d58_8 mw_k_iconst_0).trans (mj_q_iret mw_m58 d58_9 (by decide))
theorem b58_10 {X : mj_X} {d : Nat} {s : mw_S} {k0 : Nat} {x1 : Int32} {l2 : Option Value} (h0 : mw_cl k0 = some 3) : mj_exec X (d + 1) 58 10 [some (.ref k0), some (.int x1), l2] [] (mw_U s) = if mw_in 64 (nI 53) = true then if mw_in 64 (nI 52) = true then if mw_in 28 x1 = true then if mw_in 28 x1 = true then (mj_call X d 52 [.ref k0, .int x1] (mw_U s)).bind (mj_bk X (d + 1) 58 47 [some (.ref k0), some (.int x1), some (.int ((((s.1 (k0 + 1) ((nI 53)).toNatClampNeg) &&& (s.1 (k0 + 1) ((nI 52)).toNatClampNeg)) ||| ((nI 1) <<< ((mw_les (x1).toNatClampNeg) &&& 31))) ||| ((nI 1) <<< ((mw_gre (x1).toNatClampNeg) &&& 31))))] []) else none else none else none else none := (mj_q_aload_n mw_m58 d58_10 rfl (mw_neo h0)).trans ((mw_q_getr mw_m58 d58_11 mw_p3_11 h0 (mw_f3_0 h0)).trans ((mj_q_bipush mw_m58 d58_14 mw_k_bipush_53).trans ((mw_h_iald mw_m58 d58_16 (mw_a3_0 h0)).trans (mw_g ((mj_q_aload_n mw_m58 d58_17 rfl (mw_neo h0)).trans ((mw_q_getr mw_m58 d58_18 mw_p3_11 h0 (mw_f3_0 h0)).trans ((mj_q_bipush mw_m58 d58_21 mw_k_bipush_52).trans ((mw_h_iald mw_m58 d58_23 (mw_a3_0 h0)).trans (mw_g ((mj_q_iand mw_m58 d58_24).trans ((mj_q_iconst mw_m58 d58_25 mw_k_iconst_1).trans ((mj_q_getsN mw_m58 d58_26 mw_p3_39).trans ((mj_q_iload_n mw_m58 d58_29 rfl).trans ((mw_h_iakd mw_m58 d58_30 (by decide) (mw_ka0 X)).trans (mw_g ((mj_q_ishl mw_m58 d58_31).trans ((mj_q_ior mw_m58 d58_32).trans ((mj_q_iconst mw_m58 d58_33 mw_k_iconst_1).trans ((mj_q_getsN mw_m58 d58_34 mw_p3_42).trans ((mj_q_iload_n mw_m58 d58_37 rfl).trans ((mw_h_iakd mw_m58 d58_38 (by decide) (mw_ka1 X)).trans (mw_g ((mj_q_ishl mw_m58 d58_39).trans ((mj_q_ior mw_m58 d58_40).trans ((mj_q_istore_n mw_m58 d58_41 (Nat.le_of_ble_eq_true rfl) rfl rfl).trans ((mj_q_aload_n mw_m58 d58_42 rfl (mw_neo h0)).trans ((mj_q_iload_n mw_m58 d58_43 rfl).trans (mw_q_callv mw_m58 rfl d58_44 mw_p3_55 mw_m52 rfl rfl (Nat.le_of_ble_eq_true rfl) (Nat.le_of_ble_eq_true rfl) rfl (mw_rcv h0) rfl rfl))))))))))))))))))))))))))))
theorem b58_47 {X : mj_X} {d : Nat} {s : mw_S} {k0 : Nat} {x1 : Int32} {x2 : Int32} {xs0 : Int32} (h0 : mw_cl k0 = some 3) : mj_exec X (d + 1) 58 47 [some (.ref k0), some (.int x1), some (.int x2)] [.int xs0] (mw_U s) = (mj_call X d 53 [.ref k0, .int x2] (mw_U s)).bind (mj_bk X (d + 1) 58 52 [some (.ref k0), some (.int x1), some (.int x2)] [.int xs0]) := (mj_q_aload_n mw_m58 d58_47 rfl (mw_neo h0)).trans ((mj_q_iload_n mw_m58 d58_48 rfl).trans (mw_q_callv mw_m58 rfl d58_49 mw_p3_58 mw_m53 rfl rfl (Nat.le_of_ble_eq_true rfl) (Nat.le_of_ble_eq_true rfl) rfl (mw_rcv h0) rfl rfl))
theorem b58_52 {X : mj_X} {d : Nat} {s : mw_S} {k0 : Nat} {x1 : Int32} {x2 : Int32} {xs0 : Int32} {xs1 : Int32} (h0 : mw_cl k0 = some 3) : mj_exec X (d + 1) 58 52 [some (.ref k0), some (.int x1), some (.int x2)] [.int xs1, .int xs0] (mw_U s) = (mj_call X d 149 [.int xs0, .int xs1] (mw_U s)).bind (mj_bk X (d + 1) 58 55 [some (.ref k0), some (.int x1), some (.int x2)] []) := mw_q_calln mw_m58 rfl d58_52 mw_p3_31 mw_m149 rfl rfl (Nat.le_of_ble_eq_true rfl) (Nat.le_of_ble_eq_true rfl) rfl rfl
theorem b58_55 {X : mj_X} {d : Nat} {s : mw_S} {k0 : Nat} {x1 : Int32} {x2 : Int32} {xs0 : Int32} (h0 : mw_cl k0 = some 3) : mj_exec X d 58 55 [some (.ref k0), some (.int x1), some (.int x2)] [.int xs0] (mw_U s) = if mj_rfit (some .boolean) xs0 = true then some (.inl (some (.int xs0)), mw_U s) else none := mw_h_iret mw_m58 d58_55 rfl
/-- WivesQuarrels$Folk.lives -/
theorem d59_0 : decode prog_5_method_16_code 0 = .ok (.iload_n 1, 1) := by decide +kernel
theorem d59_1 : decode prog_5_method_16_code 1 = .ok (.aload_n 0, 1) := by decide +kernel
theorem d59_2 : decode prog_5_method_16_code 2 = .ok (.getfield 11, 3) := by decide +kernel
theorem d59_5 : decode prog_5_method_16_code 5 = .ok (.bipush 52, 2) := by decide +kernel
theorem d59_7 : decode prog_5_method_16_code 7 = .ok (.iaload, 1) := by decide +kernel
theorem d59_8 : decode prog_5_method_16_code 8 = .ok (.invokestatic 31, 3) := by decide +kernel
theorem d59_11 : decode prog_5_method_16_code 11 = .ok (.ireturn, 1) := by decide +kernel
theorem b59 {X : mj_X} {d : Nat} {w : mj_W} {x0 : Nat} {x1 : Int32} : mj_call X d 59 [.ref x0, .int x1] w = mj_exec X d 59 0 [some (.ref x0), some (.int x1)] [] w := mw_ent mw_m59 (Nat.le_of_ble_eq_true rfl) rfl
theorem b59_0 {X : mj_X} {d : Nat} {s : mw_S} {k0 : Nat} {x1 : Int32} (h0 : mw_cl k0 = some 3) : mj_exec X (d + 1) 59 0 [some (.ref k0), some (.int x1)] [] (mw_U s) = if mw_in 64 (nI 52) = true then (mj_call X d 149 [.int x1, .int (s.1 (k0 + 1) ((nI 52)).toNatClampNeg)] (mw_U s)).bind (mj_bk X (d + 1) 59 11 [some (.ref k0), some (.int x1)] []) else none := (mj_q_iload_n mw_m59 d59_0 rfl).trans ((mj_q_aload_n mw_m59 d59_1 rfl (mw_neo h0)).trans ((mw_q_getr mw_m59 d59_2 mw_p3_11 h0 (mw_f3_0 h0)).trans ((mj_q_bipush mw_m59 d59_5 mw_k_bipush_52).trans ((mw_h_iald mw_m59 d59_7 (mw_a3_0 h0)).trans (mw_g (mw_q_calln mw_m59 rfl d59_8 mw_p3_31 mw_m149 rfl rfl (Nat.le_of_ble_eq_true rfl) (Nat.le_of_ble_eq_true rfl) rfl rfl))))))
theorem b59_11 {X : mj_X} {d : Nat} {s : mw_S} {k0 : Nat} {x1 : Int32} {xs0 : Int32} (h0 : mw_cl k0 = some 3) : mj_exec X d 59 11 [some (.ref k0), some (.int x1)] [.int xs0] (mw_U s) = if mj_rfit (some .boolean) xs0 = true then some (.inl (some (.int xs0)), mw_U s) else none := mw_h_iret mw_m59 d59_11 rfl
/-- WivesQuarrels$Folk.clear -/
theorem d60_0 : decode prog_5_method_2_code 0 = .ok (.aload_n 0, 1) := by decide +kernel
theorem d60_1 : decode prog_5_method_2_code 1 = .ok (.getfield 11, 3) := by decide +kernel
theorem d60_4 : decode prog_5_method_2_code 4 = .ok (.iconst 0, 1) := by decide +kernel
theorem d60_5 : decode prog_5_method_2_code 5 = .ok (.invokestatic 15, 3) := by decide +kernel
theorem d60_8 : decode prog_5_method_2_code 8 = .ok (.return_, 1) := by decide +kernel
theorem b60 {X : mj_X} {d : Nat} {w : mj_W} {x0 : Nat} : mj_call X d 60 [.ref x0] w = mj_exec X d 60 0 [some (.ref x0)] [] w := mw_ent mw_m60 (Nat.le_of_ble_eq_true rfl) rfl
theorem b60_0 {X : mj_X} {d : Nat} {s : mw_S} {k0 : Nat} (h0 : mw_cl k0 = some 3) : mj_exec X (d + 1) 60 0 [some (.ref k0)] [] (mw_U s) = (mj_call X d 350 [.ref (k0 + 1), .int (nI 0)] (mw_U s)).bind (mj_bk X (d + 1) 60 8 [some (.ref k0)] []) := (mj_q_aload_n mw_m60 d60_0 rfl (mw_neo h0)).trans ((mw_q_getr mw_m60 d60_1 mw_p3_11 h0 (mw_f3_0 h0)).trans ((mj_q_iconst mw_m60 d60_4 mw_k_iconst_0).trans (mw_q_calls mw_m60 rfl d60_5 mw_p3_15 mw_m350 rfl (Nat.le_of_ble_eq_true rfl) (Nat.le_of_ble_eq_true rfl) rfl rfl)))
theorem b60_8 {X : mj_X} {d : Nat} {s : mw_S} {k0 : Nat} (h0 : mw_cl k0 = some 3) : mj_exec X d 60 8 [some (.ref k0)] [] (mw_U s) = some (.inl none, mw_U s) := mj_q_vret mw_m60 d60_8 rfl
/-- WivesQuarrels$Folk.people -/
theorem d61_0 : decode prog_5_method_7_code 0 = .ok (.aload_n 0, 1) := by decide +kernel
theorem d61_1 : decode prog_5_method_7_code 1 = .ok (.getfield 11, 3) := by decide +kernel
theorem d61_4 : decode prog_5_method_7_code 4 = .ok (.bipush 55, 2) := by decide +kernel
theorem d61_6 : decode prog_5_method_7_code 6 = .ok (.iaload, 1) := by decide +kernel
theorem d61_7 : decode prog_5_method_7_code 7 = .ok (.ireturn, 1) := by decide +kernel
theorem b61 {X : mj_X} {d : Nat} {w : mj_W} {x0 : Nat} : mj_call X d 61 [.ref x0] w = mj_exec X d 61 0 [some (.ref x0)] [] w := mw_ent mw_m61 (Nat.le_of_ble_eq_true rfl) rfl
theorem b61_0 {X : mj_X} {d : Nat} {s : mw_S} {k0 : Nat} (h0 : mw_cl k0 = some 3) : mj_exec X d 61 0 [some (.ref k0)] [] (mw_U s) = if mw_in 64 (nI 55) = true then some (.inl (some (.int (s.1 (k0 + 1) ((nI 55)).toNatClampNeg))), mw_U s) else none := (mj_q_aload_n mw_m61 d61_0 rfl (mw_neo h0)).trans ((mw_q_getr mw_m61 d61_1 mw_p3_11 h0 (mw_f3_0 h0)).trans ((mj_q_bipush mw_m61 d61_4 mw_k_bipush_55).trans ((mw_h_iald mw_m61 d61_6 (mw_a3_0 h0)).trans (mw_g (mj_q_iret mw_m61 d61_7 rfl)))))
/-- WivesQuarrels$Folk.add -/
theorem d62_0 : decode prog_5_method_11_code 0 = .ok (.aload_n 0, 1) := by decide +kernel
theorem d62_1 : decode prog_5_method_11_code 1 = .ok (.getfield 11, 3) := by decide +kernel
theorem d62_4 : decode prog_5_method_11_code 4 = .ok (.bipush 55, 2) := by decide +kernel
theorem d62_6 : decode prog_5_method_11_code 6 = .ok (.iaload, 1) := by decide +kernel
theorem d62_7 : decode prog_5_method_11_code 7 = .ok (.istore 4, 2) := by decide +kernel
theorem d62_9 : decode prog_5_method_11_code 9 = .ok (.iload 4, 2) := by decide +kernel
theorem d62_11 : decode prog_5_method_11_code 11 = .ok (.invokestatic 27, 3) := by decide +kernel
theorem d62_14 : decode prog_5_method_11_code 14 = .ok (.ifCond .ne 4, 3) := by decide +kernel
theorem d62_17 : decode prog_5_method_11_code 17 = .ok (.return_, 1) := by decide +kernel
theorem d62_18 : decode prog_5_method_11_code 18 = .ok (.aload_n 0, 1) := by decide +kernel
theorem d62_19 : decode prog_5_method_11_code 19 = .ok (.getfield 11, 3) := by decide +kernel
theorem d62_22 : decode prog_5_method_11_code 22 = .ok (.iconst 0, 1) := by decide +kernel
theorem d62_23 : decode prog_5_method_11_code 23 = .ok (.iload 4, 2) := by decide +kernel
theorem d62_25 : decode prog_5_method_11_code 25 = .ok (.iadd, 1) := by decide +kernel
theorem d62_26 : decode prog_5_method_11_code 26 = .ok (.iload_n 1, 1) := by decide +kernel
theorem d62_27 : decode prog_5_method_11_code 27 = .ok (.iastore, 1) := by decide +kernel
theorem d62_28 : decode prog_5_method_11_code 28 = .ok (.aload_n 0, 1) := by decide +kernel
theorem d62_29 : decode prog_5_method_11_code 29 = .ok (.getfield 11, 3) := by decide +kernel
theorem d62_32 : decode prog_5_method_11_code 32 = .ok (.bipush 8, 2) := by decide +kernel
theorem d62_34 : decode prog_5_method_11_code 34 = .ok (.iload 4, 2) := by decide +kernel
theorem d62_36 : decode prog_5_method_11_code 36 = .ok (.iadd, 1) := by decide +kernel
theorem d62_37 : decode prog_5_method_11_code 37 = .ok (.iload_n 2, 1) := by decide +kernel
theorem d62_38 : decode prog_5_method_11_code 38 = .ok (.iastore, 1) := by decide +kernel
theorem d62_39 : decode prog_5_method_11_code 39 = .ok (.aload_n 0, 1) := by decide +kernel
theorem d62_40 : decode prog_5_method_11_code 40 = .ok (.getfield 11, 3) := by decide +kernel
theorem d62_43 : decode prog_5_method_11_code 43 = .ok (.bipush 52, 2) := by decide +kernel
theorem d62_45 : decode prog_5_method_11_code 45 = .ok (.dup2, 1) := by decide +kernel
theorem d62_46 : decode prog_5_method_11_code 46 = .ok (.iaload, 1) := by decide +kernel
theorem d62_47 : decode prog_5_method_11_code 47 = .ok (.iconst 1, 1) := by decide +kernel
theorem d62_48 : decode prog_5_method_11_code 48 = .ok (.iload 4, 2) := by decide +kernel
theorem d62_50 : decode prog_5_method_11_code 50 = .ok (.ishl, 1) := by decide +kernel
theorem d62_51 : decode prog_5_method_11_code 51 = .ok (.ior, 1) := by decide +kernel
theorem d62_52 : decode prog_5_method_11_code 52 = .ok (.iastore, 1) := by decide +kernel
theorem d62_53 : decode prog_5_method_11_code 53 = .ok (.iload_n 3, 1) := by decide +kernel
theorem d62_54 : decode prog_5_method_11_code 54 = .ok (.ifCond .eq 17, 3) := by decide +kernel
theorem d62_57 : decode prog_5_method_11_code 57 = .ok (.aload_n 0, 1) := by decide +kernel
theorem d62_58 : decode prog_5_method_11_code 58 = .ok (.getfield 11, 3) := by decide +kernel
theorem d62_61 : decode prog_5_method_11_code 61 = .ok (.bipush 53, 2) := by decide +kernel
theorem d62_63 : decode prog_5_method_11_code 63 = .ok (.dup2, 1) := by decide +kernel
theorem d62_64 : decode prog_5_method_11_code 64 = .ok (.iaload, 1) := by decide +kernel
theorem d62_65 : decode prog_5_method_11_code 65 = .ok (.iconst 1, 1) := by decide +kernel
theorem d62_66 : decode prog_5_method_11_code 66 = .ok (.iload 4, 2) := by decide +kernel
theorem d62_68 : decode prog_5_method_11_code 68 = .ok (.ishl, 1) := by decide +kernel
theorem d62_69 : decode prog_5_method_11_code 69 = .ok (.ior, 1) := by decide +kernel
theorem d62_70 : decode prog_5_method_11_code 70 = .ok (.iastore, 1) := by decide +kernel
theorem d62_71 : decode prog_5_method_11_code 71 = .ok (.aload_n 0, 1) := by decide +kernel
theorem d62_72 : decode prog_5_method_11_code 72 = .ok (.getfield 11, 3) := by decide +kernel
theorem d62_75 : decode prog_5_method_11_code 75 = .ok (.bipush 55, 2) := by decide +kernel
theorem d62_77 : decode prog_5_method_11_code 77 = .ok (.iload 4, 2) := by decide +kernel
theorem d62_79 : decode prog_5_method_11_code 79 = .ok (.iconst 1, 1) := by decide +kernel
theorem d62_80 : decode prog_5_method_11_code 80 = .ok (.iadd, 1) := by decide +kernel
theorem d62_81 : decode prog_5_method_11_code 81 = .ok (.iastore, 1) := by decide +kernel
theorem d62_82 : decode prog_5_method_11_code 82 = .ok (.return_, 1) := by decide +kernel
theorem b62 {X : mj_X} {d : Nat} {w : mj_W} {x0 : Nat} {x1 : Int32} {x2 : Int32} {x3 : Int32} : mj_call X d 62 [.ref x0, .int x1, .int x2, .int x3] w = mj_exec X d 62 0 [some (.ref x0), some (.int x1), some (.int x2), some (.int x3), none] [] w := mw_ent mw_m62 (Nat.le_of_ble_eq_true rfl) rfl
theorem b62_0 {X : mj_X} {d : Nat} {s : mw_S} {k0 : Nat} {x1 : Int32} {x2 : Int32} {x3 : Int32} {l4 : Option Value} (h0 : mw_cl k0 = some 3) : mj_exec X (d + 1) 62 0 [some (.ref k0), some (.int x1), some (.int x2), some (.int x3), l4] [] (mw_U s) = if mw_in 64 (nI 55) = true then (mj_call X d 39 [.int (s.1 (k0 + 1) ((nI 55)).toNatClampNeg)] (mw_U s)).bind (mj_bk X (d + 1) 62 14 [some (.ref k0), some (.int x1), some (.int x2), some (.int x3), some (.int (s.1 (k0 + 1) ((nI 55)).toNatClampNeg))] []) else none := (mj_q_aload_n mw_m62 d62_0 rfl (mw_neo h0)).trans ((mw_q_getr mw_m62 d62_1 mw_p3_11 h0 (mw_f3_0 h0)).trans ((mj_q_bipush mw_m62 d62_4 mw_k_bipush_55).trans ((mw_h_iald mw_m62 d62_6 (mw_a3_0 h0)).trans (mw_g ((mj_q_istore mw_m62 d62_7 (Nat.le_of_ble_eq_true rfl) rfl rfl).trans ((mj_q_iload mw_m62 d62_9 rfl).trans (mw_q_calls mw_m62 rfl d62_11 mw_p3_27 mw_m39 rfl (Nat.le_of_ble_eq_true rfl) (Nat.le_of_ble_eq_true rfl) rfl rfl)))))))
theorem b62_14 {X : mj_X} {d : Nat} {s : mw_S} {k0 : Nat} {x1 : Int32} {x2 : Int32} {x3 : Int32} {x4 : Int32} {xs0 : Int32} (h0 : mw_cl k0 = some 3) : mj_exec X d 62 14 [some (.ref k0), some (.int x1), some (.int x2), some (.int x3), some (.int x4)] [.int xs0] (mw_U s) = if xs0 = 0 then mj_exec X d 62 17 [some (.ref k0), some (.int x1), some (.int x2), some (.int x3), some (.int x4)] [] (mw_U s) else mj_exec X d 62 18 [some (.ref k0), some (.int x1), some (.int x2), some (.int x3), some (.int x4)] [] (mw_U s) := mj_q_if_ne mw_m62 d62_14 rfl
theorem b62_17 {X : mj_X} {d : Nat} {s : mw_S} {k0 : Nat} {x1 : Int32} {x2 : Int32} {x3 : Int32} {x4 : Int32} (h0 : mw_cl k0 = some 3) : mj_exec X d 62 17 [some (.ref k0), some (.int x1), some (.int x2), some (.int x3), some (.int x4)] [] (mw_U s) = some (.inl none, mw_U s) := mj_q_vret mw_m62 d62_17 rfl
theorem b62_18 {X : mj_X} {d : Nat} {s : mw_S} {k0 : Nat} {x1 : Int32} {x2 : Int32} {x3 : Int32} {x4 : Int32} (h0 : mw_cl k0 = some 3) : mj_exec X d 62 18 [some (.ref k0), some (.int x1), some (.int x2), some (.int x3), some (.int x4)] [] (mw_U s) = if mw_in 64 ((nI 0) + x4) = true then if mw_in 64 ((nI 8) + x4) = true then if mw_in 64 (nI 52) = true then if mw_in 64 (nI 52) = true then if x3 = 0 then mj_exec X d 62 71 [some (.ref k0), some (.int x1), some (.int x2), some (.int x3), some (.int x4)] [] (mw_U (mw_p (mw_p (mw_p s (k0 + 1) (((nI 0) + x4)).toNatClampNeg x1) (k0 + 1) (((nI 8) + x4)).toNatClampNeg x2) (k0 + 1) ((nI 52)).toNatClampNeg (((mw_p (mw_p s (k0 + 1) (((nI 0) + x4)).toNatClampNeg x1) (k0 + 1) (((nI 8) + x4)).toNatClampNeg x2).1 (k0 + 1) ((nI 52)).toNatClampNeg) ||| ((nI 1) <<< (x4 &&& 31))))) else mj_exec X d 62 57 [some (.ref k0), some (.int x1), some (.int x2), some (.int x3), some (.int x4)] [] (mw_U (mw_p (mw_p (mw_p s (k0 + 1) (((nI 0) + x4)).toNatClampNeg x1) (k0 + 1) (((nI 8) + x4)).toNatClampNeg x2) (k0 + 1) ((nI 52)).toNatClampNeg (((mw_p (mw_p s (k0 + 1) (((nI 0) + x4)).toNatClampNeg x1) (k0 + 1) (((nI 8) + x4)).toNatClampNeg x2).1 (k0 + 1) ((nI 52)).toNatClampNeg) ||| ((nI 1) <<< (x4 &&& 31))))) else none else none else none else none := (mj_q_aload_n mw_m62 d62_18 rfl (mw_neo h0)).trans ((mw_q_getr mw_m62 d62_19 mw_p3_11 h0 (mw_f3_0 h0)).trans ((mj_q_iconst mw_m62 d62_22 mw_k_iconst_0).trans ((mj_q_iload mw_m62 d62_23 rfl).trans ((mj_q_iadd mw_m62 d62_25).trans ((mj_q_iload_n mw_m62 d62_26 rfl).trans ((mw_h_iast mw_m62 d62_27 (mw_a3_0 h0)).trans (mw_g ((mj_q_aload_n mw_m62 d62_28 rfl (mw_neo h0)).trans ((mw_q_getr mw_m62 d62_29 mw_p3_11 h0 (mw_f3_0 h0)).trans ((mj_q_bipush mw_m62 d62_32 mw_k_bipush_8).trans ((mj_q_iload mw_m62 d62_34 rfl).trans ((mj_q_iadd mw_m62 d62_36).trans ((mj_q_iload_n mw_m62 d62_37 rfl).trans ((mw_h_iast mw_m62 d62_38 (mw_a3_0 h0)).trans (mw_g ((mj_q_aload_n mw_m62 d62_39 rfl (mw_neo h0)).trans ((mw_q_getr mw_m62 d62_40 mw_p3_11 h0 (mw_f3_0 h0)).trans ((mj_q_bipush mw_m62 d62_43 mw_k_bipush_52).trans ((mj_q_dup2 mw_m62 d62_45 rfl rfl).trans ((mw_h_iald mw_m62 d62_46 (mw_a3_0 h0)).trans (mw_g ((mj_q_iconst mw_m62 d62_47 mw_k_iconst_1).trans ((mj_q_iload mw_m62 d62_48 rfl).trans ((mj_q_ishl mw_m62 d62_50).trans ((mj_q_ior mw_m62 d62_51).trans ((mw_h_iast mw_m62 d62_52 (mw_a3_0 h0)).trans (mw_g ((mj_q_iload_n mw_m62 d62_53 rfl).trans (mj_q_if_eq mw_m62 d62_54 rfl)))))))))))))))))))))))))))))
theorem b62_57 {X : mj_X} {d : Nat} {s : mw_S} {k0 : Nat} {x1 : Int32} {x2 : Int32} {x3 : Int32} {x4 : Int32} (h0 : mw_cl k0 = some 3) : mj_exec X d 62 57 [some (.ref k0), some (.int x1), some (.int x2), some (.int x3), some (.int x4)] [] (mw_U s) = if mw_in 64 (nI 53) = true then if mw_in 64 (nI 53) = true then mj_exec X d 62 71 [some (.ref k0), some (.int x1), some (.int x2), some (.int x3), some (.int x4)] [] (mw_U (mw_p s (k0 + 1) ((nI 53)).toNatClampNeg ((s.1 (k0 + 1) ((nI 53)).toNatClampNeg) ||| ((nI 1) <<< (x4 &&& 31))))) else none else none := (mj_q_aload_n mw_m62 d62_57 rfl (mw_neo h0)).trans ((mw_q_getr mw_m62 d62_58 mw_p3_11 h0 (mw_f3_0 h0)).trans ((mj_q_bipush mw_m62 d62_61 mw_k_bipush_53).trans ((mj_q_dup2 mw_m62 d62_63 rfl rfl).trans ((mw_h_iald mw_m62 d62_64 (mw_a3_0 h0)).trans (mw_g ((mj_q_iconst mw_m62 d62_65 mw_k_iconst_1).trans ((mj_q_iload mw_m62 d62_66 rfl).trans ((mj_q_ishl mw_m62 d62_68).trans ((mj_q_ior mw_m62 d62_69).trans ((mw_h_iast mw_m62 d62_70 (mw_a3_0 h0)).trans (mw_g (rfl))))))))))))
theorem b62_71 {X : mj_X} {d : Nat} {s : mw_S} {k0 : Nat} {x1 : Int32} {x2 : Int32} {x3 : Int32} {x4 : Int32} (h0 : mw_cl k0 = some 3) : mj_exec X d 62 71 [some (.ref k0), some (.int x1), some (.int x2), some (.int x3), some (.int x4)] [] (mw_U s) = if mw_in 64 (nI 55) = true then some (.inl none, mw_U (mw_p s (k0 + 1) ((nI 55)).toNatClampNeg (x4 + (nI 1)))) else none := (mj_q_aload_n mw_m62 d62_71 rfl (mw_neo h0)).trans ((mw_q_getr mw_m62 d62_72 mw_p3_11 h0 (mw_f3_0 h0)).trans ((mj_q_bipush mw_m62 d62_75 mw_k_bipush_55).trans ((mj_q_iload mw_m62 d62_77 rfl).trans ((mj_q_iconst mw_m62 d62_79 mw_k_iconst_1).trans ((mj_q_iadd mw_m62 d62_80).trans ((mw_h_iast mw_m62 d62_81 (mw_a3_0 h0)).trans (mw_g (mj_q_vret mw_m62 d62_82 rfl))))))))
/-- WivesQuarrels$Folk.canMarry -/
theorem d63_0 : decode prog_5_method_34_code 0 = .ok (.iload_n 1, 1) := by decide +kernel
theorem d63_1 : decode prog_5_method_34_code 1 = .ok (.iload_n 2, 1) := by decide +kernel
theorem d63_2 : decode prog_5_method_34_code 2 = .ok (.if_icmp .eq 23, 3) := by decide +kernel
theorem d63_5 : decode prog_5_method_34_code 5 = .ok (.aload_n 0, 1) := by decide +kernel
theorem d63_6 : decode prog_5_method_34_code 6 = .ok (.iload_n 1, 1) := by decide +kernel
theorem d63_7 : decode prog_5_method_34_code 7 = .ok (.invokevirtual 70, 3) := by decide +kernel
theorem d63_10 : decode prog_5_method_34_code 10 = .ok (.ifCond .eq 15, 3) := by decide +kernel
theorem d63_13 : decode prog_5_method_34_code 13 = .ok (.aload_n 0, 1) := by decide +kernel
theorem d63_14 : decode prog_5_method_34_code 14 = .ok (.iload_n 2, 1) := by decide +kernel
theorem d63_15 : decode prog_5_method_34_code 15 = .ok (.invokevirtual 70, 3) := by decide +kernel
theorem d63_18 : decode prog_5_method_34_code 18 = .ok (.ifCond .eq 7, 3) := by decide +kernel
theorem d63_21 : decode prog_5_method_34_code 21 = .ok (.iconst 1, 1) := by decide +kernel
theorem d63_22 : decode prog_5_method_34_code 22 = .ok (.goto 4, 3) := by decide +kernel
theorem d63_25 : decode prog_5_method_34_code 25 = .ok (.iconst 0, 1) := by decide +kernel
theorem d63_26 : decode prog_5_method_34_code 26 = .ok (.ireturn, 1) := by decide +kernel
theorem b63 {X : mj_X} {d : Nat} {w : mj_W} {x0 : Nat} {x1 : Int32} {x2 : Int32} : mj_call X d 63 [.ref x0, .int x1, .int x2] w = mj_exec X d 63 0 [some (.ref x0), some (.int x1), some (.int x2)] [] w := mw_ent mw_m63 (Nat.le_of_ble_eq_true rfl) rfl
theorem b63_0 {X : mj_X} {d : Nat} {s : mw_S} {k0 : Nat} {x1 : Int32} {x2 : Int32} (h0 : mw_cl k0 = some 3) : mj_exec X d 63 0 [some (.ref k0), some (.int x1), some (.int x2)] [] (mw_U s) = if x1 = x2 then mj_exec X d 63 25 [some (.ref k0), some (.int x1), some (.int x2)] [] (mw_U s) else mj_exec X d 63 5 [some (.ref k0), some (.int x1), some (.int x2)] [] (mw_U s) := (mj_q_iload_n mw_m63 d63_0 rfl).trans ((mj_q_iload_n mw_m63 d63_1 rfl).trans (mj_q_icmp_eq mw_m63 d63_2 rfl))
theorem b63_5 {X : mj_X} {d : Nat} {s : mw_S} {k0 : Nat} {x1 : Int32} {x2 : Int32} (h0 : mw_cl k0 = some 3) : mj_exec X (d + 1) 63 5 [some (.ref k0), some (.int x1), some (.int x2)] [] (mw_U s) = (mj_call X d 64 [.ref k0, .int x1] (mw_U s)).bind (mj_bk X (d + 1) 63 10 [some (.ref k0), some (.int x1), some (.int x2)] []) := (mj_q_aload_n mw_m63 d63_5 rfl (mw_neo h0)).trans ((mj_q_iload_n mw_m63 d63_6 rfl).trans (mw_q_callv mw_m63 rfl d63_7 mw_p3_70 mw_m64 rfl rfl (Nat.le_of_ble_eq_true rfl) (Nat.le_of_ble_eq_true rfl) rfl (mw_rcv h0) rfl rfl))
theorem b63_10 {X : mj_X} {d : Nat} {s : mw_S} {k0 : Nat} {x1 : Int32} {x2 : Int32} {xs0 : Int32} (h0 : mw_cl k0 = some 3) : mj_exec X d 63 10 [some (.ref k0), some (.int x1), some (.int x2)] [.int xs0] (mw_U s) = if xs0 = 0 then mj_exec X d 63 25 [some (.ref k0), some (.int x1), some (.int x2)] [] (mw_U s) else mj_exec X d 63 13 [some (.ref k0), some (.int x1), some (.int x2)] [] (mw_U s) := mj_q_if_eq mw_m63 d63_10 rfl
theorem b63_13 {X : mj_X} {d : Nat} {s : mw_S} {k0 : Nat} {x1 : Int32} {x2 : Int32} (h0 : mw_cl k0 = some 3) : mj_exec X (d + 1) 63 13 [some (.ref k0), some (.int x1), some (.int x2)] [] (mw_U s) = (mj_call X d 64 [.ref k0, .int x2] (mw_U s)).bind (mj_bk X (d + 1) 63 18 [some (.ref k0), some (.int x1), some (.int x2)] []) := (mj_q_aload_n mw_m63 d63_13 rfl (mw_neo h0)).trans ((mj_q_iload_n mw_m63 d63_14 rfl).trans (mw_q_callv mw_m63 rfl d63_15 mw_p3_70 mw_m64 rfl rfl (Nat.le_of_ble_eq_true rfl) (Nat.le_of_ble_eq_true rfl) rfl (mw_rcv h0) rfl rfl))
theorem b63_18 {X : mj_X} {d : Nat} {s : mw_S} {k0 : Nat} {x1 : Int32} {x2 : Int32} {xs0 : Int32} (h0 : mw_cl k0 = some 3) : mj_exec X d 63 18 [some (.ref k0), some (.int x1), some (.int x2)] [.int xs0] (mw_U s) = if xs0 = 0 then mj_exec X d 63 25 [some (.ref k0), some (.int x1), some (.int x2)] [] (mw_U s) else mj_exec X d 63 21 [some (.ref k0), some (.int x1), some (.int x2)] [] (mw_U s) := mj_q_if_eq mw_m63 d63_18 rfl
theorem b63_21 {X : mj_X} {d : Nat} {s : mw_S} {k0 : Nat} {x1 : Int32} {x2 : Int32} (h0 : mw_cl k0 = some 3) : mj_exec X d 63 21 [some (.ref k0), some (.int x1), some (.int x2)] [] (mw_U s) = mj_exec X d 63 26 [some (.ref k0), some (.int x1), some (.int x2)] [.int (nI 1)] (mw_U s) := (mj_q_iconst mw_m63 d63_21 mw_k_iconst_1).trans (mj_q_goto mw_m63 d63_22 rfl)
theorem b63_25 {X : mj_X} {d : Nat} {s : mw_S} {k0 : Nat} {x1 : Int32} {x2 : Int32} (h0 : mw_cl k0 = some 3) : mj_exec X d 63 25 [some (.ref k0), some (.int x1), some (.int x2)] [] (mw_U s) = mj_exec X d 63 26 [some (.ref k0), some (.int x1), some (.int x2)] [.int (nI 0)] (mw_U s) := mj_q_iconst mw_m63 d63_25 mw_k_iconst_0
theorem b63_26 {X : mj_X} {d : Nat} {s : mw_S} {k0 : Nat} {x1 : Int32} {x2 : Int32} {xs0 : Int32} (h0 : mw_cl k0 = some 3) : mj_exec X d 63 26 [some (.ref k0), some (.int x1), some (.int x2)] [.int xs0] (mw_U s) = if mj_rfit (some .boolean) xs0 = true then some (.inl (some (.int xs0)), mw_U s) else none := mw_h_iret mw_m63 d63_26 rfl
/-- WivesQuarrels$Folk.isSingle -/
theorem d64_0 : decode prog_5_method_35_code 0 = .ok (.aload_n 0, 1) := by decide +kernel
theorem d64_1 : decode prog_5_method_35_code 1 = .ok (.iload_n 1, 1) := by decide +kernel
theorem d64_2 : decode prog_5_method_35_code 2 = .ok (.invokevirtual 73, 3) := by decide +kernel
theorem d64_5 : decode prog_5_method_35_code 5 = .ok (.ifCond .eq 16, 3) := by decide +kernel
theorem d64_8 : decode prog_5_method_35_code 8 = .ok (.aload_n 0, 1) := by decide +kernel
theorem d64_9 : decode prog_5_method_35_code 9 = .ok (.iload_n 1, 1) := by decide +kernel
theorem d64_10 : decode prog_5_method_35_code 10 = .ok (.invokevirtual 76, 3) := by decide +kernel
theorem d64_13 : decode prog_5_method_35_code 13 = .ok (.iconst (-1), 1) := by decide +kernel
theorem d64_14 : decode prog_5_method_35_code 14 = .ok (.if_icmp .ne 7, 3) := by decide +kernel
theorem d64_17 : decode prog_5_method_35_code 17 = .ok (.iconst 1, 1) := by decide +kernel
theorem d64_18 : decode prog_5_method_35_code 18 = .ok (.goto 4, 3) := by decide +kernel
theorem d64_21 : decode prog_5_method_35_code 21 = .ok (.iconst 0, 1) := by decide +kernel
theorem d64_22 : decode prog_5_method_35_code 22 = .ok (.ireturn, 1) := by decide +kernel
theorem b64 {X : mj_X} {d : Nat} {w : mj_W} {x0 : Nat} {x1 : Int32} : mj_call X d 64 [.ref x0, .int x1] w = mj_exec X d 64 0 [some (.ref x0), some (.int x1)] [] w := mw_ent mw_m64 (Nat.le_of_ble_eq_true rfl) rfl
theorem b64_0 {X : mj_X} {d : Nat} {s : mw_S} {k0 : Nat} {x1 : Int32} (h0 : mw_cl k0 = some 3) : mj_exec X (d + 1) 64 0 [some (.ref k0), some (.int x1)] [] (mw_U s) = (mj_call X d 59 [.ref k0, .int x1] (mw_U s)).bind (mj_bk X (d + 1) 64 5 [some (.ref k0), some (.int x1)] []) := (mj_q_aload_n mw_m64 d64_0 rfl (mw_neo h0)).trans ((mj_q_iload_n mw_m64 d64_1 rfl).trans (mw_q_callv mw_m64 rfl d64_2 mw_p3_73 mw_m59 rfl rfl (Nat.le_of_ble_eq_true rfl) (Nat.le_of_ble_eq_true rfl) rfl (mw_rcv h0) rfl rfl))
theorem b64_5 {X : mj_X} {d : Nat} {s : mw_S} {k0 : Nat} {x1 : Int32} {xs0 : Int32} (h0 : mw_cl k0 = some 3) : mj_exec X d 64 5 [some (.ref k0), some (.int x1)] [.int xs0] (mw_U s) = if xs0 = 0 then mj_exec X d 64 21 [some (.ref k0), some (.int x1)] [] (mw_U s) else mj_exec X d 64 8 [some (.ref k0), some (.int x1)] [] (mw_U s) := mj_q_if_eq mw_m64 d64_5 rfl
theorem b64_8 {X : mj_X} {d : Nat} {s : mw_S} {k0 : Nat} {x1 : Int32} (h0 : mw_cl k0 = some 3) : mj_exec X (d + 1) 64 8 [some (.ref k0), some (.int x1)] [] (mw_U s) = (mj_call X d 55 [.ref k0, .int x1] (mw_U s)).bind (mj_bk X (d + 1) 64 13 [some (.ref k0), some (.int x1)] []) := (mj_q_aload_n mw_m64 d64_8 rfl (mw_neo h0)).trans ((mj_q_iload_n mw_m64 d64_9 rfl).trans (mw_q_callv mw_m64 rfl d64_10 mw_p3_76 mw_m55 rfl rfl (Nat.le_of_ble_eq_true rfl) (Nat.le_of_ble_eq_true rfl) rfl (mw_rcv h0) rfl rfl))
theorem b64_13 {X : mj_X} {d : Nat} {s : mw_S} {k0 : Nat} {x1 : Int32} {xs0 : Int32} (h0 : mw_cl k0 = some 3) : mj_exec X d 64 13 [some (.ref k0), some (.int x1)] [.int xs0] (mw_U s) = if xs0 = (-1) then mj_exec X d 64 17 [some (.ref k0), some (.int x1)] [] (mw_U s) else mj_exec X d 64 21 [some (.ref k0), some (.int x1)] [] (mw_U s) := (mj_q_iconst mw_m64 d64_13 mw_k_iconst_m1).trans (mj_q_icmp_ne mw_m64 d64_14 rfl)
theorem b64_17 {X : mj_X} {d : Nat} {s : mw_S} {k0 : Nat} {x1 : Int32} (h0 : mw_cl k0 = some 3) : mj_exec X d 64 17 [some (.ref k0), some (.int x1)] [] (mw_U s) = mj_exec X d 64 22 [some (.ref k0), some (.int x1)] [.int (nI 1)] (mw_U s) := (mj_q_iconst mw_m64 d64_17 mw_k_iconst_1).trans (mj_q_goto mw_m64 d64_18 rfl)
theorem b64_21 {X : mj_X} {d : Nat} {s : mw_S} {k0 : Nat} {x1 : Int32} (h0 : mw_cl k0 = some 3) : mj_exec X d 64 21 [some (.ref k0), some (.int x1)] [] (mw_U s) = mj_exec X d 64 22 [some (.ref k0), some (.int x1)] [.int (nI 0)] (mw_U s) := mj_q_iconst mw_m64 d64_21 mw_k_iconst_0
theorem b64_22 {X : mj_X} {d : Nat} {s : mw_S} {k0 : Nat} {x1 : Int32} {xs0 : Int32} (h0 : mw_cl k0 = some 3) : mj_exec X d 64 22 [some (.ref k0), some (.int x1)] [.int xs0] (mw_U s) = if mj_rfit (some .boolean) xs0 = true then some (.inl (some (.int xs0)), mw_U s) else none := mw_h_iret mw_m64 d64_22 rfl
/-- WivesQuarrels$Folk.join -/
theorem d65_0 : decode prog_5_method_36_code 0 = .ok (.iload_n 1, 1) := by decide +kernel
theorem d65_1 : decode prog_5_method_36_code 1 = .ok (.invokestatic 27, 3) := by decide +kernel
theorem d65_4 : decode prog_5_method_36_code 4 = .ok (.ifCond .eq 34, 3) := by decide +kernel
theorem d65_7 : decode prog_5_method_36_code 7 = .ok (.iload_n 2, 1) := by decide +kernel
theorem d65_8 : decode prog_5_method_36_code 8 = .ok (.invokestatic 27, 3) := by decide +kernel
theorem d65_11 : decode prog_5_method_36_code 11 = .ok (.ifCond .eq 27, 3) := by decide +kernel
theorem d65_14 : decode prog_5_method_36_code 14 = .ok (.aload_n 0, 1) := by decide +kernel
theorem d65_15 : decode prog_5_method_36_code 15 = .ok (.getfield 11, 3) := by decide +kernel
theorem d65_18 : decode prog_5_method_36_code 18 = .ok (.bipush 16, 2) := by decide +kernel
theorem d65_20 : decode prog_5_method_36_code 20 = .ok (.iload_n 1, 1) := by decide +kernel
theorem d65_21 : decode prog_5_method_36_code 21 = .ok (.iadd, 1) := by decide +kernel
theorem d65_22 : decode prog_5_method_36_code 22 = .ok (.iload_n 2, 1) := by decide +kernel
theorem d65_23 : decode prog_5_method_36_code 23 = .ok (.iconst 1, 1) := by decide +kernel
theorem d65_24 : decode prog_5_method_36_code 24 = .ok (.iadd, 1) := by decide +kernel
theorem d65_25 : decode prog_5_method_36_code 25 = .ok (.iastore, 1) := by decide +kernel
theorem d65_26 : decode prog_5_method_36_code 26 = .ok (.aload_n 0, 1) := by decide +kernel
theorem d65_27 : decode prog_5_method_36_code 27 = .ok (.getfield 11, 3) := by decide +kernel
theorem d65_30 : decode prog_5_method_36_code 30 = .ok (.bipush 16, 2) := by decide +kernel
theorem d65_32 : decode prog_5_method_36_code 32 = .ok (.iload_n 2, 1) := by decide +kernel
theorem d65_33 : decode prog_5_method_36_code 33 = .ok (.iadd, 1) := by decide +kernel
theorem d65_34 : decode prog_5_method_36_code 34 = .ok (.iload_n 1, 1) := by decide +kernel
theorem d65_35 : decode prog_5_method_36_code 35 = .ok (.iconst 1, 1) := by decide +kernel
theorem d65_36 : decode prog_5_method_36_code 36 = .ok (.iadd, 1) := by decide +kernel
theorem d65_37 : decode prog_5_method_36_code 37 = .ok (.iastore, 1) := by decide +kernel
theorem d65_38 : decode prog_5_method_36_code 38 = .ok (.return_, 1) := by decide +kernel
theorem b65 {X : mj_X} {d : Nat} {w : mj_W} {x0 : Nat} {x1 : Int32} {x2 : Int32} : mj_call X d 65 [.ref x0, .int x1, .int x2] w = mj_exec X d 65 0 [some (.ref x0), some (.int x1), some (.int x2)] [] w := mw_ent mw_m65 (Nat.le_of_ble_eq_true rfl) rfl
theorem b65_0 {X : mj_X} {d : Nat} {s : mw_S} {k0 : Nat} {x1 : Int32} {x2 : Int32} (h0 : mw_cl k0 = some 3) : mj_exec X (d + 1) 65 0 [some (.ref k0), some (.int x1), some (.int x2)] [] (mw_U s) = (mj_call X d 39 [.int x1] (mw_U s)).bind (mj_bk X (d + 1) 65 4 [some (.ref k0), some (.int x1), some (.int x2)] []) := (mj_q_iload_n mw_m65 d65_0 rfl).trans (mw_q_calls mw_m65 rfl d65_1 mw_p3_27 mw_m39 rfl (Nat.le_of_ble_eq_true rfl) (Nat.le_of_ble_eq_true rfl) rfl rfl)
theorem b65_4 {X : mj_X} {d : Nat} {s : mw_S} {k0 : Nat} {x1 : Int32} {x2 : Int32} {xs0 : Int32} (h0 : mw_cl k0 = some 3) : mj_exec X d 65 4 [some (.ref k0), some (.int x1), some (.int x2)] [.int xs0] (mw_U s) = if xs0 = 0 then mj_exec X d 65 38 [some (.ref k0), some (.int x1), some (.int x2)] [] (mw_U s) else mj_exec X d 65 7 [some (.ref k0), some (.int x1), some (.int x2)] [] (mw_U s) := mj_q_if_eq mw_m65 d65_4 rfl
theorem b65_7 {X : mj_X} {d : Nat} {s : mw_S} {k0 : Nat} {x1 : Int32} {x2 : Int32} (h0 : mw_cl k0 = some 3) : mj_exec X (d + 1) 65 7 [some (.ref k0), some (.int x1), some (.int x2)] [] (mw_U s) = (mj_call X d 39 [.int x2] (mw_U s)).bind (mj_bk X (d + 1) 65 11 [some (.ref k0), some (.int x1), some (.int x2)] []) := (mj_q_iload_n mw_m65 d65_7 rfl).trans (mw_q_calls mw_m65 rfl d65_8 mw_p3_27 mw_m39 rfl (Nat.le_of_ble_eq_true rfl) (Nat.le_of_ble_eq_true rfl) rfl rfl)
theorem b65_11 {X : mj_X} {d : Nat} {s : mw_S} {k0 : Nat} {x1 : Int32} {x2 : Int32} {xs0 : Int32} (h0 : mw_cl k0 = some 3) : mj_exec X d 65 11 [some (.ref k0), some (.int x1), some (.int x2)] [.int xs0] (mw_U s) = if xs0 = 0 then mj_exec X d 65 38 [some (.ref k0), some (.int x1), some (.int x2)] [] (mw_U s) else mj_exec X d 65 14 [some (.ref k0), some (.int x1), some (.int x2)] [] (mw_U s) := mj_q_if_eq mw_m65 d65_11 rfl
theorem b65_14 {X : mj_X} {d : Nat} {s : mw_S} {k0 : Nat} {x1 : Int32} {x2 : Int32} (h0 : mw_cl k0 = some 3) : mj_exec X d 65 14 [some (.ref k0), some (.int x1), some (.int x2)] [] (mw_U s) = if mw_in 64 ((nI 16) + x1) = true then if mw_in 64 ((nI 16) + x2) = true then mj_exec X d 65 38 [some (.ref k0), some (.int x1), some (.int x2)] [] (mw_U (mw_p (mw_p s (k0 + 1) (((nI 16) + x1)).toNatClampNeg (x2 + (nI 1))) (k0 + 1) (((nI 16) + x2)).toNatClampNeg (x1 + (nI 1)))) else none else none := (mj_q_aload_n mw_m65 d65_14 rfl (mw_neo h0)).trans ((mw_q_getr mw_m65 d65_15 mw_p3_11 h0 (mw_f3_0 h0)).trans ((mj_q_bipush mw_m65 d65_18 mw_k_bipush_16).trans ((mj_q_iload_n mw_m65 d65_20 rfl).trans ((mj_q_iadd mw_m65 d65_21).trans ((mj_q_iload_n mw_m65 d65_22 rfl).trans ((mj_q_iconst mw_m65 d65_23 mw_k_iconst_1).trans ((mj_q_iadd mw_m65 d65_24).trans ((mw_h_iast mw_m65 d65_25 (mw_a3_0 h0)).trans (mw_g ((mj_q_aload_n mw_m65 d65_26 rfl (mw_neo h0)).trans ((mw_q_getr mw_m65 d65_27 mw_p3_11 h0 (mw_f3_0 h0)).trans ((mj_q_bipush mw_m65 d65_30 mw_k_bipush_16).trans ((mj_q_iload_n mw_m65 d65_32 rfl).trans ((mj_q_iadd mw_m65 d65_33).trans ((mj_q_iload_n mw_m65 d65_34 rfl).trans ((mj_q_iconst mw_m65 d65_35 mw_k_iconst_1).trans ((mj_q_iadd mw_m65 d65_36).trans ((mw_h_iast mw_m65 d65_37 (mw_a3_0 h0)).trans (mw_g (rfl))))))))))))))))))))
theorem b65_38 {X : mj_X} {d : Nat} {s : mw_S} {k0 : Nat} {x1 : Int32} {x2 : Int32} (h0 : mw_cl k0 = some 3) : mj_exec X d 65 38 [some (.ref k0), some (.int x1), some (.int x2)] [] (mw_U s) = some (.inl none, mw_U s) := mj_q_vret mw_m65 d65_38 rfl
/-- WivesQuarrels$Folk.allHeat -/
theorem d66_0 : decode prog_5_method_29_code 0 = .ok (.iconst 0, 1) := by decide +kernel
theorem d66_1 : decode prog_5_method_29_code 1 = .ok (.istore_n 1, 1) := by decide +kernel
theorem d66_2 : decode prog_5_method_29_code 2 = .ok (.iconst 0, 1) := by decide +kernel
theorem d66_3 : decode prog_5_method_29_code 3 = .ok (.istore_n 2, 1) := by decide +kernel
theorem d66_4 : decode prog_5_method_29_code 4 = .ok (.iload_n 2, 1) := by decide +kernel
theorem d66_5 : decode prog_5_method_29_code 5 = .ok (.bipush 28, 2) := by decide +kernel
theorem d66_7 : decode prog_5_method_29_code 7 = .ok (.if_icmp .ge 17, 3) := by decide +kernel
theorem d66_10 : decode prog_5_method_29_code 10 = .ok (.iload_n 1, 1) := by decide +kernel
theorem d66_11 : decode prog_5_method_29_code 11 = .ok (.aload_n 0, 1) := by decide +kernel
theorem d66_12 : decode prog_5_method_29_code 12 = .ok (.iload_n 2, 1) := by decide +kernel
theorem d66_13 : decode prog_5_method_29_code 13 = .ok (.invokevirtual 35, 3) := by decide +kernel
theorem d66_16 : decode prog_5_method_29_code 16 = .ok (.iadd, 1) := by decide +kernel
theorem d66_17 : decode prog_5_method_29_code 17 = .ok (.istore_n 1, 1) := by decide +kernel
theorem d66_18 : decode prog_5_method_29_code 18 = .ok (.iinc 2 1, 3) := by decide +kernel
theorem d66_21 : decode prog_5_method_29_code 21 = .ok (.goto (-17), 3) := by decide +kernel
theorem d66_24 : decode prog_5_method_29_code 24 = .ok (.iload_n 1, 1) := by decide +kernel
theorem d66_25 : decode prog_5_method_29_code 25 = .ok (.ireturn, 1) := by decide +kernel
theorem b66 {X : mj_X} {d : Nat} {w : mj_W} {x0 : Nat} : mj_call X d 66 [.ref x0] w = mj_exec X d 66 0 [some (.ref x0), none, none] [] w := mw_ent mw_m66 (Nat.le_of_ble_eq_true rfl) rfl
theorem b66_0 {X : mj_X} {d : Nat} {s : mw_S} {k0 : Nat} {l1 : Option Value} {l2 : Option Value} (h0 : mw_cl k0 = some 3) : mj_exec X d 66 0 [some (.ref k0), l1, l2] [] (mw_U s) = mj_exec X d 66 4 [some (.ref k0), some (.int (nI 0)), some (.int (nI 0))] [] (mw_U s) := (mj_q_iconst mw_m66 d66_0 mw_k_iconst_0).trans ((mj_q_istore_n mw_m66 d66_1 (Nat.le_of_ble_eq_true rfl) rfl rfl).trans ((mj_q_iconst mw_m66 d66_2 mw_k_iconst_0).trans (mj_q_istore_n mw_m66 d66_3 (Nat.le_of_ble_eq_true rfl) rfl rfl)))
theorem b66_4 {X : mj_X} {d : Nat} {s : mw_S} {k0 : Nat} {x1 : Int32} {x2 : Int32} (h0 : mw_cl k0 = some 3) : mj_exec X d 66 4 [some (.ref k0), some (.int x1), some (.int x2)] [] (mw_U s) = if (nI 28) ≤ x2 then mj_exec X d 66 24 [some (.ref k0), some (.int x1), some (.int x2)] [] (mw_U s) else mj_exec X d 66 10 [some (.ref k0), some (.int x1), some (.int x2)] [] (mw_U s) := (mj_q_iload_n mw_m66 d66_4 rfl).trans ((mj_q_bipush mw_m66 d66_5 mw_k_bipush_28).trans (mj_q_icmp_ge mw_m66 d66_7 rfl))
theorem b66_10 {X : mj_X} {d : Nat} {s : mw_S} {k0 : Nat} {x1 : Int32} {x2 : Int32} (h0 : mw_cl k0 = some 3) : mj_exec X (d + 1) 66 10 [some (.ref k0), some (.int x1), some (.int x2)] [] (mw_U s) = (mj_call X d 37 [.ref k0, .int x2] (mw_U s)).bind (mj_bk X (d + 1) 66 16 [some (.ref k0), some (.int x1), some (.int x2)] [.int x1]) := (mj_q_iload_n mw_m66 d66_10 rfl).trans ((mj_q_aload_n mw_m66 d66_11 rfl (mw_neo h0)).trans ((mj_q_iload_n mw_m66 d66_12 rfl).trans (mw_q_callv mw_m66 rfl d66_13 mw_p3_35 mw_m37 rfl rfl (Nat.le_of_ble_eq_true rfl) (Nat.le_of_ble_eq_true rfl) rfl (mw_rcv h0) rfl rfl)))
theorem b66_16 {X : mj_X} {d : Nat} {s : mw_S} {k0 : Nat} {x1 : Int32} {x2 : Int32} {xs0 : Int32} {xs1 : Int32} (h0 : mw_cl k0 = some 3) : mj_exec X d 66 16 [some (.ref k0), some (.int x1), some (.int x2)] [.int xs1, .int xs0] (mw_U s) = mj_exec X d 66 4 [some (.ref k0), some (.int (xs0 + xs1)), some (.int (x2 + (nI 1)))] [] (mw_U s) := (mj_q_iadd mw_m66 d66_16).trans ((mj_q_istore_n mw_m66 d66_17 (Nat.le_of_ble_eq_true rfl) rfl rfl).trans ((mj_q_iinc mw_m66 d66_18 rfl (Nat.le_of_ble_eq_true rfl) rfl mw_k_iconst_1 rfl).trans (mj_q_goto mw_m66 d66_21 rfl)))
theorem b66_24 {X : mj_X} {d : Nat} {s : mw_S} {k0 : Nat} {x1 : Int32} {x2 : Int32} (h0 : mw_cl k0 = some 3) : mj_exec X d 66 24 [some (.ref k0), some (.int x1), some (.int x2)] [] (mw_U s) = some (.inl (some (.int x1)), mw_U s) := (mj_q_iload_n mw_m66 d66_24 rfl).trans (mj_q_iret mw_m66 d66_25 rfl)
/-- WivesQuarrels$Folk.drawer -/
theorem d67_0 : decode prog_5_method_14_code 0 = .ok (.iload_n 1, 1) := by decide +kernel
theorem d67_1 : decode prog_5_method_14_code 1 = .ok (.invokestatic 27, 3) := by decide +kernel
theorem d67_4 : decode prog_5_method_14_code 4 = .ok (.ifCond .eq 15, 3) := by decide +kernel
theorem d67_7 : decode prog_5_method_14_code 7 = .ok (.aload_n 0, 1) := by decide +kernel
theorem d67_8 : decode prog_5_method_14_code 8 = .ok (.getfield 11, 3) := by decide +kernel
theorem d67_11 : decode prog_5_method_14_code 11 = .ok (.bipush 8, 2) := by decide +kernel
theorem d67_13 : decode prog_5_method_14_code 13 = .ok (.iload_n 1, 1) := by decide +kernel
theorem d67_14 : decode prog_5_method_14_code 14 = .ok (.iadd, 1) := by decide +kernel
theorem d67_15 : decode prog_5_method_14_code 15 = .ok (.iaload, 1) := by decide +kernel
theorem d67_16 : decode prog_5_method_14_code 16 = .ok (.goto 4, 3) := by decide +kernel
theorem d67_19 : decode prog_5_method_14_code 19 = .ok (.iconst 0, 1) := by decide +kernel
theorem d67_20 : decode prog_5_method_14_code 20 = .ok (.ireturn, 1) := by decide +kernel
theorem b67 {X : mj_X} {d : Nat} {w : mj_W} {x0 : Nat} {x1 : Int32} : mj_call X d 67 [.ref x0, .int x1] w = mj_exec X d 67 0 [some (.ref x0), some (.int x1)] [] w := mw_ent mw_m67 (Nat.le_of_ble_eq_true rfl) rfl
theorem b67_0 {X : mj_X} {d : Nat} {s : mw_S} {k0 : Nat} {x1 : Int32} (h0 : mw_cl k0 = some 3) : mj_exec X (d + 1) 67 0 [some (.ref k0), some (.int x1)] [] (mw_U s) = (mj_call X d 39 [.int x1] (mw_U s)).bind (mj_bk X (d + 1) 67 4 [some (.ref k0), some (.int x1)] []) := (mj_q_iload_n mw_m67 d67_0 rfl).trans (mw_q_calls mw_m67 rfl d67_1 mw_p3_27 mw_m39 rfl (Nat.le_of_ble_eq_true rfl) (Nat.le_of_ble_eq_true rfl) rfl rfl)
theorem b67_4 {X : mj_X} {d : Nat} {s : mw_S} {k0 : Nat} {x1 : Int32} {xs0 : Int32} (h0 : mw_cl k0 = some 3) : mj_exec X d 67 4 [some (.ref k0), some (.int x1)] [.int xs0] (mw_U s) = if xs0 = 0 then mj_exec X d 67 19 [some (.ref k0), some (.int x1)] [] (mw_U s) else mj_exec X d 67 7 [some (.ref k0), some (.int x1)] [] (mw_U s) := mj_q_if_eq mw_m67 d67_4 rfl
theorem b67_7 {X : mj_X} {d : Nat} {s : mw_S} {k0 : Nat} {x1 : Int32} (h0 : mw_cl k0 = some 3) : mj_exec X d 67 7 [some (.ref k0), some (.int x1)] [] (mw_U s) = if mw_in 64 ((nI 8) + x1) = true then mj_exec X d 67 20 [some (.ref k0), some (.int x1)] [.int (s.1 (k0 + 1) (((nI 8) + x1)).toNatClampNeg)] (mw_U s) else none := (mj_q_aload_n mw_m67 d67_7 rfl (mw_neo h0)).trans ((mw_q_getr mw_m67 d67_8 mw_p3_11 h0 (mw_f3_0 h0)).trans ((mj_q_bipush mw_m67 d67_11 mw_k_bipush_8).trans ((mj_q_iload_n mw_m67 d67_13 rfl).trans ((mj_q_iadd mw_m67 d67_14).trans ((mw_h_iald mw_m67 d67_15 (mw_a3_0 h0)).trans (mw_g (mj_q_goto mw_m67 d67_16 rfl)))))))
theorem b67_19 {X : mj_X} {d : Nat} {s : mw_S} {k0 : Nat} {x1 : Int32} (h0 : mw_cl k0 = some 3) : mj_exec X d 67 19 [some (.ref k0), some (.int x1)] [] (mw_U s) = mj_exec X d 67 20 [some (.ref k0), some (.int x1)] [.int (nI 0)] (mw_U s) := mj_q_iconst mw_m67 d67_19 mw_k_iconst_0
theorem b67_20 {X : mj_X} {d : Nat} {s : mw_S} {k0 : Nat} {x1 : Int32} {xs0 : Int32} (h0 : mw_cl k0 = some 3) : mj_exec X d 67 20 [some (.ref k0), some (.int x1)] [.int xs0] (mw_U s) = some (.inl (some (.int xs0)), mw_U s) := mj_q_iret mw_m67 d67_20 rfl
/-- WivesQuarrels$Folk.isLawyer -/
theorem d68_0 : decode prog_5_method_17_code 0 = .ok (.iload_n 1, 1) := by decide +kernel
theorem d68_1 : decode prog_5_method_17_code 1 = .ok (.aload_n 0, 1) := by decide +kernel
theorem d68_2 : decode prog_5_method_17_code 2 = .ok (.getfield 11, 3) := by decide +kernel
theorem d68_5 : decode prog_5_method_17_code 5 = .ok (.bipush 53, 2) := by decide +kernel
theorem d68_7 : decode prog_5_method_17_code 7 = .ok (.iaload, 1) := by decide +kernel
theorem d68_8 : decode prog_5_method_17_code 8 = .ok (.invokestatic 31, 3) := by decide +kernel
theorem d68_11 : decode prog_5_method_17_code 11 = .ok (.ireturn, 1) := by decide +kernel
theorem b68 {X : mj_X} {d : Nat} {w : mj_W} {x0 : Nat} {x1 : Int32} : mj_call X d 68 [.ref x0, .int x1] w = mj_exec X d 68 0 [some (.ref x0), some (.int x1)] [] w := mw_ent mw_m68 (Nat.le_of_ble_eq_true rfl) rfl
theorem b68_0 {X : mj_X} {d : Nat} {s : mw_S} {k0 : Nat} {x1 : Int32} (h0 : mw_cl k0 = some 3) : mj_exec X (d + 1) 68 0 [some (.ref k0), some (.int x1)] [] (mw_U s) = if mw_in 64 (nI 53) = true then (mj_call X d 149 [.int x1, .int (s.1 (k0 + 1) ((nI 53)).toNatClampNeg)] (mw_U s)).bind (mj_bk X (d + 1) 68 11 [some (.ref k0), some (.int x1)] []) else none := (mj_q_iload_n mw_m68 d68_0 rfl).trans ((mj_q_aload_n mw_m68 d68_1 rfl (mw_neo h0)).trans ((mw_q_getr mw_m68 d68_2 mw_p3_11 h0 (mw_f3_0 h0)).trans ((mj_q_bipush mw_m68 d68_5 mw_k_bipush_53).trans ((mw_h_iald mw_m68 d68_7 (mw_a3_0 h0)).trans (mw_g (mw_q_calln mw_m68 rfl d68_8 mw_p3_31 mw_m149 rfl rfl (Nat.le_of_ble_eq_true rfl) (Nat.le_of_ble_eq_true rfl) rfl rfl))))))
theorem b68_11 {X : mj_X} {d : Nat} {s : mw_S} {k0 : Nat} {x1 : Int32} {xs0 : Int32} (h0 : mw_cl k0 = some 3) : mj_exec X d 68 11 [some (.ref k0), some (.int x1)] [.int xs0] (mw_U s) = if mj_rfit (some .boolean) xs0 = true then some (.inl (some (.int xs0)), mw_U s) else none := mw_h_iret mw_m68 d68_11 rfl
/-- WivesQuarrels$Folk.heatAround -/
theorem d69_0 : decode prog_5_method_27_code 0 = .ok (.iconst 0, 1) := by decide +kernel
theorem d69_1 : decode prog_5_method_27_code 1 = .ok (.istore_n 2, 1) := by decide +kernel
theorem d69_2 : decode prog_5_method_27_code 2 = .ok (.iconst 0, 1) := by decide +kernel
theorem d69_3 : decode prog_5_method_27_code 3 = .ok (.istore_n 3, 1) := by decide +kernel
theorem d69_4 : decode prog_5_method_27_code 4 = .ok (.iload_n 3, 1) := by decide +kernel
theorem d69_5 : decode prog_5_method_27_code 5 = .ok (.bipush 8, 2) := by decide +kernel
theorem d69_7 : decode prog_5_method_27_code 7 = .ok (.if_icmp .ge 21, 3) := by decide +kernel
theorem d69_10 : decode prog_5_method_27_code 10 = .ok (.iload_n 2, 1) := by decide +kernel
theorem d69_11 : decode prog_5_method_27_code 11 = .ok (.aload_n 0, 1) := by decide +kernel
theorem d69_12 : decode prog_5_method_27_code 12 = .ok (.iload_n 1, 1) := by decide +kernel
theorem d69_13 : decode prog_5_method_27_code 13 = .ok (.iload_n 3, 1) := by decide +kernel
theorem d69_14 : decode prog_5_method_27_code 14 = .ok (.invokestatic 48, 3) := by decide +kernel
theorem d69_17 : decode prog_5_method_27_code 17 = .ok (.invokevirtual 35, 3) := by decide +kernel
theorem d69_20 : decode prog_5_method_27_code 20 = .ok (.iadd, 1) := by decide +kernel
theorem d69_21 : decode prog_5_method_27_code 21 = .ok (.istore_n 2, 1) := by decide +kernel
theorem d69_22 : decode prog_5_method_27_code 22 = .ok (.iinc 3 1, 3) := by decide +kernel
theorem d69_25 : decode prog_5_method_27_code 25 = .ok (.goto (-21), 3) := by decide +kernel
theorem d69_28 : decode prog_5_method_27_code 28 = .ok (.iload_n 2, 1) := by decide +kernel
theorem d69_29 : decode prog_5_method_27_code 29 = .ok (.ireturn, 1) := by decide +kernel
theorem b69 {X : mj_X} {d : Nat} {w : mj_W} {x0 : Nat} {x1 : Int32} : mj_call X d 69 [.ref x0, .int x1] w = mj_exec X d 69 0 [some (.ref x0), some (.int x1), none, none] [] w := mw_ent mw_m69 (Nat.le_of_ble_eq_true rfl) rfl
theorem b69_0 {X : mj_X} {d : Nat} {s : mw_S} {k0 : Nat} {x1 : Int32} {l2 : Option Value} {l3 : Option Value} (h0 : mw_cl k0 = some 3) : mj_exec X d 69 0 [some (.ref k0), some (.int x1), l2, l3] [] (mw_U s) = mj_exec X d 69 4 [some (.ref k0), some (.int x1), some (.int (nI 0)), some (.int (nI 0))] [] (mw_U s) := (mj_q_iconst mw_m69 d69_0 mw_k_iconst_0).trans ((mj_q_istore_n mw_m69 d69_1 (Nat.le_of_ble_eq_true rfl) rfl rfl).trans ((mj_q_iconst mw_m69 d69_2 mw_k_iconst_0).trans (mj_q_istore_n mw_m69 d69_3 (Nat.le_of_ble_eq_true rfl) rfl rfl)))
theorem b69_4 {X : mj_X} {d : Nat} {s : mw_S} {k0 : Nat} {x1 : Int32} {x2 : Int32} {x3 : Int32} (h0 : mw_cl k0 = some 3) : mj_exec X d 69 4 [some (.ref k0), some (.int x1), some (.int x2), some (.int x3)] [] (mw_U s) = if (nI 8) ≤ x3 then mj_exec X d 69 28 [some (.ref k0), some (.int x1), some (.int x2), some (.int x3)] [] (mw_U s) else mj_exec X d 69 10 [some (.ref k0), some (.int x1), some (.int x2), some (.int x3)] [] (mw_U s) := (mj_q_iload_n mw_m69 d69_4 rfl).trans ((mj_q_bipush mw_m69 d69_5 mw_k_bipush_8).trans (mj_q_icmp_ge mw_m69 d69_7 rfl))
theorem b69_10 {X : mj_X} {d : Nat} {s : mw_S} {k0 : Nat} {x1 : Int32} {x2 : Int32} {x3 : Int32} (h0 : mw_cl k0 = some 3) : mj_exec X (d + 1) 69 10 [some (.ref k0), some (.int x1), some (.int x2), some (.int x3)] [] (mw_U s) = (mj_call X d 153 [.int x1, .int x3] (mw_U s)).bind (mj_bk X (d + 1) 69 17 [some (.ref k0), some (.int x1), some (.int x2), some (.int x3)] [.ref k0, .int x2]) := (mj_q_iload_n mw_m69 d69_10 rfl).trans ((mj_q_aload_n mw_m69 d69_11 rfl (mw_neo h0)).trans ((mj_q_iload_n mw_m69 d69_12 rfl).trans ((mj_q_iload_n mw_m69 d69_13 rfl).trans (mw_q_calln mw_m69 rfl d69_14 mw_p3_48 mw_m153 rfl rfl (Nat.le_of_ble_eq_true rfl) (Nat.le_of_ble_eq_true rfl) rfl rfl))))
theorem b69_17 {X : mj_X} {d : Nat} {s : mw_S} {k0 : Nat} {x1 : Int32} {x2 : Int32} {x3 : Int32} {xs0 : Int32} {ks1 : Nat} {xs2 : Int32} (h0 : mw_cl k0 = some 3) (hs1 : mw_cl ks1 = some 3) : mj_exec X (d + 1) 69 17 [some (.ref k0), some (.int x1), some (.int x2), some (.int x3)] [.int xs2, .ref ks1, .int xs0] (mw_U s) = (mj_call X d 37 [.ref ks1, .int xs2] (mw_U s)).bind (mj_bk X (d + 1) 69 20 [some (.ref k0), some (.int x1), some (.int x2), some (.int x3)] [.int xs0]) := mw_q_callv mw_m69 rfl d69_17 mw_p3_35 mw_m37 rfl rfl (Nat.le_of_ble_eq_true rfl) (Nat.le_of_ble_eq_true rfl) rfl (mw_rcv hs1) rfl rfl
theorem b69_20 {X : mj_X} {d : Nat} {s : mw_S} {k0 : Nat} {x1 : Int32} {x2 : Int32} {x3 : Int32} {xs0 : Int32} {xs1 : Int32} (h0 : mw_cl k0 = some 3) : mj_exec X d 69 20 [some (.ref k0), some (.int x1), some (.int x2), some (.int x3)] [.int xs1, .int xs0] (mw_U s) = mj_exec X d 69 4 [some (.ref k0), some (.int x1), some (.int (xs0 + xs1)), some (.int (x3 + (nI 1)))] [] (mw_U s) := (mj_q_iadd mw_m69 d69_20).trans ((mj_q_istore_n mw_m69 d69_21 (Nat.le_of_ble_eq_true rfl) rfl rfl).trans ((mj_q_iinc mw_m69 d69_22 rfl (Nat.le_of_ble_eq_true rfl) rfl mw_k_iconst_1 rfl).trans (mj_q_goto mw_m69 d69_25 rfl)))
theorem b69_28 {X : mj_X} {d : Nat} {s : mw_S} {k0 : Nat} {x1 : Int32} {x2 : Int32} {x3 : Int32} (h0 : mw_cl k0 = some 3) : mj_exec X d 69 28 [some (.ref k0), some (.int x1), some (.int x2), some (.int x3)] [] (mw_U s) = some (.inl (some (.int x2)), mw_U s) := (mj_q_iload_n mw_m69 d69_28 rfl).trans (mj_q_iret mw_m69 d69_29 rfl)
/-- WivesQuarrels$Folk.marry -/
theorem d70_0 : decode prog_5_method_37_code 0 = .ok (.aload_n 0, 1) := by decide +kernel
theorem d70_1 : decode prog_5_method_37_code 1 = .ok (.iload_n 1, 1) := by decide +kernel
theorem d70_2 : decode prog_5_method_37_code 2 = .ok (.iload_n 2, 1) := by decide +kernel
theorem d70_3 : decode prog_5_method_37_code 3 = .ok (.invokevirtual 79, 3) := by decide +kernel
theorem d70_6 : decode prog_5_method_37_code 6 = .ok (.aload_n 0, 1) := by decide +kernel
theorem d70_7 : decode prog_5_method_37_code 7 = .ok (.iload_n 1, 1) := by decide +kernel
theorem d70_8 : decode prog_5_method_37_code 8 = .ok (.iload_n 2, 1) := by decide +kernel
theorem d70_9 : decode prog_5_method_37_code 9 = .ok (.invokestatic 48, 3) := by decide +kernel
theorem d70_12 : decode prog_5_method_37_code 12 = .ok (.invokevirtual 83, 3) := by decide +kernel
theorem d70_15 : decode prog_5_method_37_code 15 = .ok (.return_, 1) := by decide +kernel
theorem b70 {X : mj_X} {d : Nat} {w : mj_W} {x0 : Nat} {x1 : Int32} {x2 : Int32} : mj_call X d 70 [.ref x0, .int x1, .int x2] w = mj_exec X d 70 0 [some (.ref x0), some (.int x1), some (.int x2)] [] w := mw_ent mw_m70 (Nat.le_of_ble_eq_true rfl) rfl
theorem b70_0 {X : mj_X} {d : Nat} {s : mw_S} {k0 : Nat} {x1 : Int32} {x2 : Int32} (h0 : mw_cl k0 = some 3) : mj_exec X (d + 1) 70 0 [some (.ref k0), some (.int x1), some (.int x2)] [] (mw_U s) = (mj_call X d 65 [.ref k0, .int x1, .int x2] (mw_U s)).bind (mj_bk X (d + 1) 70 6 [some (.ref k0), some (.int x1), some (.int x2)] []) := (mj_q_aload_n mw_m70 d70_0 rfl (mw_neo h0)).trans ((mj_q_iload_n mw_m70 d70_1 rfl).trans ((mj_q_iload_n mw_m70 d70_2 rfl).trans (mw_q_callv mw_m70 rfl d70_3 mw_p3_79 mw_m65 rfl rfl (Nat.le_of_ble_eq_true rfl) (Nat.le_of_ble_eq_true rfl) rfl (mw_rcv h0) rfl rfl)))
theorem b70_6 {X : mj_X} {d : Nat} {s : mw_S} {k0 : Nat} {x1 : Int32} {x2 : Int32} (h0 : mw_cl k0 = some 3) : mj_exec X (d + 1) 70 6 [some (.ref k0), some (.int x1), some (.int x2)] [] (mw_U s) = (mj_call X d 153 [.int x1, .int x2] (mw_U s)).bind (mj_bk X (d + 1) 70 12 [some (.ref k0), some (.int x1), some (.int x2)] [.ref k0]) := (mj_q_aload_n mw_m70 d70_6 rfl (mw_neo h0)).trans ((mj_q_iload_n mw_m70 d70_7 rfl).trans ((mj_q_iload_n mw_m70 d70_8 rfl).trans (mw_q_calln mw_m70 rfl d70_9 mw_p3_48 mw_m153 rfl rfl (Nat.le_of_ble_eq_true rfl) (Nat.le_of_ble_eq_true rfl) rfl rfl)))
theorem b70_12 {X : mj_X} {d : Nat} {s : mw_S} {k0 : Nat} {x1 : Int32} {x2 : Int32} {ks0 : Nat} {xs1 : Int32} (h0 : mw_cl k0 = some 3) (hs0 : mw_cl ks0 = some 3) : mj_exec X (d + 1) 70 12 [some (.ref k0), some (.int x1), some (.int x2)] [.int xs1, .ref ks0] (mw_U s) = (mj_call X d 42 [.ref ks0, .int xs1] (mw_U s)).bind (mj_bk X (d + 1) 70 15 [some (.ref k0), some (.int x1), some (.int x2)] []) := mw_q_callv mw_m70 rfl d70_12 mw_p3_83 mw_m42 rfl rfl (Nat.le_of_ble_eq_true rfl) (Nat.le_of_ble_eq_true rfl) rfl (mw_rcv hs0) rfl rfl
theorem b70_15 {X : mj_X} {d : Nat} {s : mw_S} {k0 : Nat} {x1 : Int32} {x2 : Int32} (h0 : mw_cl k0 = some 3) : mj_exec X d 70 15 [some (.ref k0), some (.int x1), some (.int x2)] [] (mw_U s) = some (.inl none, mw_U s) := mj_q_vret mw_m70 d70_15 rfl
/-- WivesQuarrels$Folk.canQuarrel -/
theorem d71_0 : decode prog_5_method_38_code 0 = .ok (.iload_n 1, 1) := by decide +kernel
theorem d71_1 : decode prog_5_method_38_code 1 = .ok (.iload_n 2, 1) := by decide +kernel
theorem d71_2 : decode prog_5_method_38_code 2 = .ok (.if_icmp .eq 44, 3) := by decide +kernel
theorem d71_5 : decode prog_5_method_38_code 5 = .ok (.aload_n 0, 1) := by decide +kernel
theorem d71_6 : decode prog_5_method_38_code 6 = .ok (.iload_n 1, 1) := by decide +kernel
theorem d71_7 : decode prog_5_method_38_code 7 = .ok (.invokevirtual 73, 3) := by decide +kernel
theorem d71_10 : decode prog_5_method_38_code 10 = .ok (.ifCond .eq 36, 3) := by decide +kernel
theorem d71_13 : decode prog_5_method_38_code 13 = .ok (.aload_n 0, 1) := by decide +kernel
theorem d71_14 : decode prog_5_method_38_code 14 = .ok (.iload_n 2, 1) := by decide +kernel
theorem d71_15 : decode prog_5_method_38_code 15 = .ok (.invokevirtual 73, 3) := by decide +kernel
theorem d71_18 : decode prog_5_method_38_code 18 = .ok (.ifCond .eq 28, 3) := by decide +kernel
theorem d71_21 : decode prog_5_method_38_code 21 = .ok (.aload_n 0, 1) := by decide +kernel
theorem d71_22 : decode prog_5_method_38_code 22 = .ok (.iload_n 1, 1) := by decide +kernel
theorem d71_23 : decode prog_5_method_38_code 23 = .ok (.invokevirtual 76, 3) := by decide +kernel
theorem d71_26 : decode prog_5_method_38_code 26 = .ok (.iload_n 2, 1) := by decide +kernel
theorem d71_27 : decode prog_5_method_38_code 27 = .ok (.if_icmp .eq 19, 3) := by decide +kernel
theorem d71_30 : decode prog_5_method_38_code 30 = .ok (.aload_n 0, 1) := by decide +kernel
theorem d71_31 : decode prog_5_method_38_code 31 = .ok (.iload_n 1, 1) := by decide +kernel
theorem d71_32 : decode prog_5_method_38_code 32 = .ok (.iload_n 2, 1) := by decide +kernel
theorem d71_33 : decode prog_5_method_38_code 33 = .ok (.invokestatic 48, 3) := by decide +kernel
theorem d71_36 : decode prog_5_method_38_code 36 = .ok (.invokevirtual 52, 3) := by decide +kernel
theorem d71_39 : decode prog_5_method_38_code 39 = .ok (.ifCond .ne 7, 3) := by decide +kernel
theorem d71_42 : decode prog_5_method_38_code 42 = .ok (.iconst 1, 1) := by decide +kernel
theorem d71_43 : decode prog_5_method_38_code 43 = .ok (.goto 4, 3) := by decide +kernel
theorem d71_46 : decode prog_5_method_38_code 46 = .ok (.iconst 0, 1) := by decide +kernel
theorem d71_47 : decode prog_5_method_38_code 47 = .ok (.ireturn, 1) := by decide +kernel
theorem b71 {X : mj_X} {d : Nat} {w : mj_W} {x0 : Nat} {x1 : Int32} {x2 : Int32} : mj_call X d 71 [.ref x0, .int x1, .int x2] w = mj_exec X d 71 0 [some (.ref x0), some (.int x1), some (.int x2)] [] w := mw_ent mw_m71 (Nat.le_of_ble_eq_true rfl) rfl
theorem b71_0 {X : mj_X} {d : Nat} {s : mw_S} {k0 : Nat} {x1 : Int32} {x2 : Int32} (h0 : mw_cl k0 = some 3) : mj_exec X d 71 0 [some (.ref k0), some (.int x1), some (.int x2)] [] (mw_U s) = if x1 = x2 then mj_exec X d 71 46 [some (.ref k0), some (.int x1), some (.int x2)] [] (mw_U s) else mj_exec X d 71 5 [some (.ref k0), some (.int x1), some (.int x2)] [] (mw_U s) := (mj_q_iload_n mw_m71 d71_0 rfl).trans ((mj_q_iload_n mw_m71 d71_1 rfl).trans (mj_q_icmp_eq mw_m71 d71_2 rfl))
theorem b71_5 {X : mj_X} {d : Nat} {s : mw_S} {k0 : Nat} {x1 : Int32} {x2 : Int32} (h0 : mw_cl k0 = some 3) : mj_exec X (d + 1) 71 5 [some (.ref k0), some (.int x1), some (.int x2)] [] (mw_U s) = (mj_call X d 59 [.ref k0, .int x1] (mw_U s)).bind (mj_bk X (d + 1) 71 10 [some (.ref k0), some (.int x1), some (.int x2)] []) := (mj_q_aload_n mw_m71 d71_5 rfl (mw_neo h0)).trans ((mj_q_iload_n mw_m71 d71_6 rfl).trans (mw_q_callv mw_m71 rfl d71_7 mw_p3_73 mw_m59 rfl rfl (Nat.le_of_ble_eq_true rfl) (Nat.le_of_ble_eq_true rfl) rfl (mw_rcv h0) rfl rfl))
theorem b71_10 {X : mj_X} {d : Nat} {s : mw_S} {k0 : Nat} {x1 : Int32} {x2 : Int32} {xs0 : Int32} (h0 : mw_cl k0 = some 3) : mj_exec X d 71 10 [some (.ref k0), some (.int x1), some (.int x2)] [.int xs0] (mw_U s) = if xs0 = 0 then mj_exec X d 71 46 [some (.ref k0), some (.int x1), some (.int x2)] [] (mw_U s) else mj_exec X d 71 13 [some (.ref k0), some (.int x1), some (.int x2)] [] (mw_U s) := mj_q_if_eq mw_m71 d71_10 rfl
theorem b71_13 {X : mj_X} {d : Nat} {s : mw_S} {k0 : Nat} {x1 : Int32} {x2 : Int32} (h0 : mw_cl k0 = some 3) : mj_exec X (d + 1) 71 13 [some (.ref k0), some (.int x1), some (.int x2)] [] (mw_U s) = (mj_call X d 59 [.ref k0, .int x2] (mw_U s)).bind (mj_bk X (d + 1) 71 18 [some (.ref k0), some (.int x1), some (.int x2)] []) := (mj_q_aload_n mw_m71 d71_13 rfl (mw_neo h0)).trans ((mj_q_iload_n mw_m71 d71_14 rfl).trans (mw_q_callv mw_m71 rfl d71_15 mw_p3_73 mw_m59 rfl rfl (Nat.le_of_ble_eq_true rfl) (Nat.le_of_ble_eq_true rfl) rfl (mw_rcv h0) rfl rfl))
theorem b71_18 {X : mj_X} {d : Nat} {s : mw_S} {k0 : Nat} {x1 : Int32} {x2 : Int32} {xs0 : Int32} (h0 : mw_cl k0 = some 3) : mj_exec X d 71 18 [some (.ref k0), some (.int x1), some (.int x2)] [.int xs0] (mw_U s) = if xs0 = 0 then mj_exec X d 71 46 [some (.ref k0), some (.int x1), some (.int x2)] [] (mw_U s) else mj_exec X d 71 21 [some (.ref k0), some (.int x1), some (.int x2)] [] (mw_U s) := mj_q_if_eq mw_m71 d71_18 rfl
theorem b71_21 {X : mj_X} {d : Nat} {s : mw_S} {k0 : Nat} {x1 : Int32} {x2 : Int32} (h0 : mw_cl k0 = some 3) : mj_exec X (d + 1) 71 21 [some (.ref k0), some (.int x1), some (.int x2)] [] (mw_U s) = (mj_call X d 55 [.ref k0, .int x1] (mw_U s)).bind (mj_bk X (d + 1) 71 26 [some (.ref k0), some (.int x1), some (.int x2)] []) := (mj_q_aload_n mw_m71 d71_21 rfl (mw_neo h0)).trans ((mj_q_iload_n mw_m71 d71_22 rfl).trans (mw_q_callv mw_m71 rfl d71_23 mw_p3_76 mw_m55 rfl rfl (Nat.le_of_ble_eq_true rfl) (Nat.le_of_ble_eq_true rfl) rfl (mw_rcv h0) rfl rfl))
theorem b71_26 {X : mj_X} {d : Nat} {s : mw_S} {k0 : Nat} {x1 : Int32} {x2 : Int32} {xs0 : Int32} (h0 : mw_cl k0 = some 3) : mj_exec X d 71 26 [some (.ref k0), some (.int x1), some (.int x2)] [.int xs0] (mw_U s) = if xs0 = x2 then mj_exec X d 71 46 [some (.ref k0), some (.int x1), some (.int x2)] [] (mw_U s) else mj_exec X d 71 30 [some (.ref k0), some (.int x1), some (.int x2)] [] (mw_U s) := (mj_q_iload_n mw_m71 d71_26 rfl).trans (mj_q_icmp_eq mw_m71 d71_27 rfl)
theorem b71_30 {X : mj_X} {d : Nat} {s : mw_S} {k0 : Nat} {x1 : Int32} {x2 : Int32} (h0 : mw_cl k0 = some 3) : mj_exec X (d + 1) 71 30 [some (.ref k0), some (.int x1), some (.int x2)] [] (mw_U s) = (mj_call X d 153 [.int x1, .int x2] (mw_U s)).bind (mj_bk X (d + 1) 71 36 [some (.ref k0), some (.int x1), some (.int x2)] [.ref k0]) := (mj_q_aload_n mw_m71 d71_30 rfl (mw_neo h0)).trans ((mj_q_iload_n mw_m71 d71_31 rfl).trans ((mj_q_iload_n mw_m71 d71_32 rfl).trans (mw_q_calln mw_m71 rfl d71_33 mw_p3_48 mw_m153 rfl rfl (Nat.le_of_ble_eq_true rfl) (Nat.le_of_ble_eq_true rfl) rfl rfl)))
theorem b71_36 {X : mj_X} {d : Nat} {s : mw_S} {k0 : Nat} {x1 : Int32} {x2 : Int32} {ks0 : Nat} {xs1 : Int32} (h0 : mw_cl k0 = some 3) (hs0 : mw_cl ks0 = some 3) : mj_exec X (d + 1) 71 36 [some (.ref k0), some (.int x1), some (.int x2)] [.int xs1, .ref ks0] (mw_U s) = (mj_call X d 36 [.ref ks0, .int xs1] (mw_U s)).bind (mj_bk X (d + 1) 71 39 [some (.ref k0), some (.int x1), some (.int x2)] []) := mw_q_callv mw_m71 rfl d71_36 mw_p3_52 mw_m36 rfl rfl (Nat.le_of_ble_eq_true rfl) (Nat.le_of_ble_eq_true rfl) rfl (mw_rcv hs0) rfl rfl
theorem b71_39 {X : mj_X} {d : Nat} {s : mw_S} {k0 : Nat} {x1 : Int32} {x2 : Int32} {xs0 : Int32} (h0 : mw_cl k0 = some 3) : mj_exec X d 71 39 [some (.ref k0), some (.int x1), some (.int x2)] [.int xs0] (mw_U s) = if xs0 = 0 then mj_exec X d 71 42 [some (.ref k0), some (.int x1), some (.int x2)] [] (mw_U s) else mj_exec X d 71 46 [some (.ref k0), some (.int x1), some (.int x2)] [] (mw_U s) := mj_q_if_ne mw_m71 d71_39 rfl
theorem b71_42 {X : mj_X} {d : Nat} {s : mw_S} {k0 : Nat} {x1 : Int32} {x2 : Int32} (h0 : mw_cl k0 = some 3) : mj_exec X d 71 42 [some (.ref k0), some (.int x1), some (.int x2)] [] (mw_U s) = mj_exec X d 71 47 [some (.ref k0), some (.int x1), some (.int x2)] [.int (nI 1)] (mw_U s) := (mj_q_iconst mw_m71 d71_42 mw_k_iconst_1).trans (mj_q_goto mw_m71 d71_43 rfl)
theorem b71_46 {X : mj_X} {d : Nat} {s : mw_S} {k0 : Nat} {x1 : Int32} {x2 : Int32} (h0 : mw_cl k0 = some 3) : mj_exec X d 71 46 [some (.ref k0), some (.int x1), some (.int x2)] [] (mw_U s) = mj_exec X d 71 47 [some (.ref k0), some (.int x1), some (.int x2)] [.int (nI 0)] (mw_U s) := mj_q_iconst mw_m71 d71_46 mw_k_iconst_0
theorem b71_47 {X : mj_X} {d : Nat} {s : mw_S} {k0 : Nat} {x1 : Int32} {x2 : Int32} {xs0 : Int32} (h0 : mw_cl k0 = some 3) : mj_exec X d 71 47 [some (.ref k0), some (.int x1), some (.int x2)] [.int xs0] (mw_U s) = if mj_rfit (some .boolean) xs0 = true then some (.inl (some (.int xs0)), mw_U s) else none := mw_h_iret mw_m71 d71_47 rfl
/-- WivesQuarrels$Folk.hottest -/
theorem d72_0 : decode prog_5_method_41_code 0 = .ok (.iconst (-1), 1) := by decide +kernel
theorem d72_1 : decode prog_5_method_41_code 1 = .ok (.istore_n 1, 1) := by decide +kernel
theorem d72_2 : decode prog_5_method_41_code 2 = .ok (.iconst 0, 1) := by decide +kernel
theorem d72_3 : decode prog_5_method_41_code 3 = .ok (.istore_n 2, 1) := by decide +kernel
theorem d72_4 : decode prog_5_method_41_code 4 = .ok (.iload_n 2, 1) := by decide +kernel
theorem d72_5 : decode prog_5_method_41_code 5 = .ok (.bipush 28, 2) := by decide +kernel
theorem d72_7 : decode prog_5_method_41_code 7 = .ok (.if_icmp .ge 32, 3) := by decide +kernel
theorem d72_10 : decode prog_5_method_41_code 10 = .ok (.aload_n 0, 1) := by decide +kernel
theorem d72_11 : decode prog_5_method_41_code 11 = .ok (.iload_n 2, 1) := by decide +kernel
theorem d72_12 : decode prog_5_method_41_code 12 = .ok (.invokevirtual 52, 3) := by decide +kernel
theorem d72_15 : decode prog_5_method_41_code 15 = .ok (.ifCond .eq 18, 3) := by decide +kernel
theorem d72_18 : decode prog_5_method_41_code 18 = .ok (.aload_n 0, 1) := by decide +kernel
theorem d72_19 : decode prog_5_method_41_code 19 = .ok (.iload_n 2, 1) := by decide +kernel
theorem d72_20 : decode prog_5_method_41_code 20 = .ok (.invokevirtual 35, 3) := by decide +kernel
theorem d72_23 : decode prog_5_method_41_code 23 = .ok (.aload_n 0, 1) := by decide +kernel
theorem d72_24 : decode prog_5_method_41_code 24 = .ok (.iload_n 1, 1) := by decide +kernel
theorem d72_25 : decode prog_5_method_41_code 25 = .ok (.invokevirtual 35, 3) := by decide +kernel
theorem d72_28 : decode prog_5_method_41_code 28 = .ok (.if_icmp .le 5, 3) := by decide +kernel
theorem d72_31 : decode prog_5_method_41_code 31 = .ok (.iload_n 2, 1) := by decide +kernel
theorem d72_32 : decode prog_5_method_41_code 32 = .ok (.istore_n 1, 1) := by decide +kernel
theorem d72_33 : decode prog_5_method_41_code 33 = .ok (.iinc 2 1, 3) := by decide +kernel
theorem d72_36 : decode prog_5_method_41_code 36 = .ok (.goto (-32), 3) := by decide +kernel
theorem d72_39 : decode prog_5_method_41_code 39 = .ok (.iload_n 1, 1) := by decide +kernel
theorem d72_40 : decode prog_5_method_41_code 40 = .ok (.ireturn, 1) := by decide +kernel
theorem b72 {X : mj_X} {d : Nat} {w : mj_W} {x0 : Nat} : mj_call X d 72 [.ref x0] w = mj_exec X d 72 0 [some (.ref x0), none, none] [] w := mw_ent mw_m72 (Nat.le_of_ble_eq_true rfl) rfl
theorem b72_0 {X : mj_X} {d : Nat} {s : mw_S} {k0 : Nat} {l1 : Option Value} {l2 : Option Value} (h0 : mw_cl k0 = some 3) : mj_exec X d 72 0 [some (.ref k0), l1, l2] [] (mw_U s) = mj_exec X d 72 4 [some (.ref k0), some (.int (-1)), some (.int (nI 0))] [] (mw_U s) := (mj_q_iconst mw_m72 d72_0 mw_k_iconst_m1).trans ((mj_q_istore_n mw_m72 d72_1 (Nat.le_of_ble_eq_true rfl) rfl rfl).trans ((mj_q_iconst mw_m72 d72_2 mw_k_iconst_0).trans (mj_q_istore_n mw_m72 d72_3 (Nat.le_of_ble_eq_true rfl) rfl rfl)))
theorem b72_4 {X : mj_X} {d : Nat} {s : mw_S} {k0 : Nat} {x1 : Int32} {x2 : Int32} (h0 : mw_cl k0 = some 3) : mj_exec X d 72 4 [some (.ref k0), some (.int x1), some (.int x2)] [] (mw_U s) = if (nI 28) ≤ x2 then mj_exec X d 72 39 [some (.ref k0), some (.int x1), some (.int x2)] [] (mw_U s) else mj_exec X d 72 10 [some (.ref k0), some (.int x1), some (.int x2)] [] (mw_U s) := (mj_q_iload_n mw_m72 d72_4 rfl).trans ((mj_q_bipush mw_m72 d72_5 mw_k_bipush_28).trans (mj_q_icmp_ge mw_m72 d72_7 rfl))
theorem b72_10 {X : mj_X} {d : Nat} {s : mw_S} {k0 : Nat} {x1 : Int32} {x2 : Int32} (h0 : mw_cl k0 = some 3) : mj_exec X (d + 1) 72 10 [some (.ref k0), some (.int x1), some (.int x2)] [] (mw_U s) = (mj_call X d 36 [.ref k0, .int x2] (mw_U s)).bind (mj_bk X (d + 1) 72 15 [some (.ref k0), some (.int x1), some (.int x2)] []) := (mj_q_aload_n mw_m72 d72_10 rfl (mw_neo h0)).trans ((mj_q_iload_n mw_m72 d72_11 rfl).trans (mw_q_callv mw_m72 rfl d72_12 mw_p3_52 mw_m36 rfl rfl (Nat.le_of_ble_eq_true rfl) (Nat.le_of_ble_eq_true rfl) rfl (mw_rcv h0) rfl rfl))
theorem b72_15 {X : mj_X} {d : Nat} {s : mw_S} {k0 : Nat} {x1 : Int32} {x2 : Int32} {xs0 : Int32} (h0 : mw_cl k0 = some 3) : mj_exec X d 72 15 [some (.ref k0), some (.int x1), some (.int x2)] [.int xs0] (mw_U s) = if xs0 = 0 then mj_exec X d 72 33 [some (.ref k0), some (.int x1), some (.int x2)] [] (mw_U s) else mj_exec X d 72 18 [some (.ref k0), some (.int x1), some (.int x2)] [] (mw_U s) := mj_q_if_eq mw_m72 d72_15 rfl
theorem b72_18 {X : mj_X} {d : Nat} {s : mw_S} {k0 : Nat} {x1 : Int32} {x2 : Int32} (h0 : mw_cl k0 = some 3) : mj_exec X (d + 1) 72 18 [some (.ref k0), some (.int x1), some (.int x2)] [] (mw_U s) = (mj_call X d 37 [.ref k0, .int x2] (mw_U s)).bind (mj_bk X (d + 1) 72 23 [some (.ref k0), some (.int x1), some (.int x2)] []) := (mj_q_aload_n mw_m72 d72_18 rfl (mw_neo h0)).trans ((mj_q_iload_n mw_m72 d72_19 rfl).trans (mw_q_callv mw_m72 rfl d72_20 mw_p3_35 mw_m37 rfl rfl (Nat.le_of_ble_eq_true rfl) (Nat.le_of_ble_eq_true rfl) rfl (mw_rcv h0) rfl rfl))
theorem b72_23 {X : mj_X} {d : Nat} {s : mw_S} {k0 : Nat} {x1 : Int32} {x2 : Int32} {xs0 : Int32} (h0 : mw_cl k0 = some 3) : mj_exec X (d + 1) 72 23 [some (.ref k0), some (.int x1), some (.int x2)] [.int xs0] (mw_U s) = (mj_call X d 37 [.ref k0, .int x1] (mw_U s)).bind (mj_bk X (d + 1) 72 28 [some (.ref k0), some (.int x1), some (.int x2)] [.int xs0]) := (mj_q_aload_n mw_m72 d72_23 rfl (mw_neo h0)).trans ((mj_q_iload_n mw_m72 d72_24 rfl).trans (mw_q_callv mw_m72 rfl d72_25 mw_p3_35 mw_m37 rfl rfl (Nat.le_of_ble_eq_true rfl) (Nat.le_of_ble_eq_true rfl) rfl (mw_rcv h0) rfl rfl))
theorem b72_28 {X : mj_X} {d : Nat} {s : mw_S} {k0 : Nat} {x1 : Int32} {x2 : Int32} {xs0 : Int32} {xs1 : Int32} (h0 : mw_cl k0 = some 3) : mj_exec X d 72 28 [some (.ref k0), some (.int x1), some (.int x2)] [.int xs1, .int xs0] (mw_U s) = if xs0 ≤ xs1 then mj_exec X d 72 33 [some (.ref k0), some (.int x1), some (.int x2)] [] (mw_U s) else mj_exec X d 72 31 [some (.ref k0), some (.int x1), some (.int x2)] [] (mw_U s) := mj_q_icmp_le mw_m72 d72_28 rfl
theorem b72_31 {X : mj_X} {d : Nat} {s : mw_S} {k0 : Nat} {x1 : Int32} {x2 : Int32} (h0 : mw_cl k0 = some 3) : mj_exec X d 72 31 [some (.ref k0), some (.int x1), some (.int x2)] [] (mw_U s) = mj_exec X d 72 33 [some (.ref k0), some (.int x2), some (.int x2)] [] (mw_U s) := (mj_q_iload_n mw_m72 d72_31 rfl).trans (mj_q_istore_n mw_m72 d72_32 (Nat.le_of_ble_eq_true rfl) rfl rfl)
theorem b72_33 {X : mj_X} {d : Nat} {s : mw_S} {k0 : Nat} {x1 : Int32} {x2 : Int32} (h0 : mw_cl k0 = some 3) : mj_exec X d 72 33 [some (.ref k0), some (.int x1), some (.int x2)] [] (mw_U s) = mj_exec X d 72 4 [some (.ref k0), some (.int x1), some (.int (x2 + (nI 1)))] [] (mw_U s) := (mj_q_iinc mw_m72 d72_33 rfl (Nat.le_of_ble_eq_true rfl) rfl mw_k_iconst_1 rfl).trans (mj_q_goto mw_m72 d72_36 rfl)
theorem b72_39 {X : mj_X} {d : Nat} {s : mw_S} {k0 : Nat} {x1 : Int32} {x2 : Int32} (h0 : mw_cl k0 = some 3) : mj_exec X d 72 39 [some (.ref k0), some (.int x1), some (.int x2)] [] (mw_U s) = some (.inl (some (.int x1)), mw_U s) := (mj_q_iload_n mw_m72 d72_39 rfl).trans (mj_q_iret mw_m72 d72_40 rfl)
/-- WivesQuarrels$Folk.mostBitter -/
theorem d73_0 : decode prog_5_method_42_code 0 = .ok (.iconst (-1), 1) := by decide +kernel
theorem d73_1 : decode prog_5_method_42_code 1 = .ok (.istore_n 1, 1) := by decide +kernel
theorem d73_2 : decode prog_5_method_42_code 2 = .ok (.iconst (-1), 1) := by decide +kernel
theorem d73_3 : decode prog_5_method_42_code 3 = .ok (.istore_n 2, 1) := by decide +kernel
theorem d73_4 : decode prog_5_method_42_code 4 = .ok (.iconst 0, 1) := by decide +kernel
theorem d73_5 : decode prog_5_method_42_code 5 = .ok (.istore_n 3, 1) := by decide +kernel
theorem d73_6 : decode prog_5_method_42_code 6 = .ok (.iload_n 3, 1) := by decide +kernel
theorem d73_7 : decode prog_5_method_42_code 7 = .ok (.bipush 8, 2) := by decide +kernel
theorem d73_9 : decode prog_5_method_42_code 9 = .ok (.if_icmp .ge 34, 3) := by decide +kernel
theorem d73_12 : decode prog_5_method_42_code 12 = .ok (.aload_n 0, 1) := by decide +kernel
theorem d73_13 : decode prog_5_method_42_code 13 = .ok (.iload_n 3, 1) := by decide +kernel
theorem d73_14 : decode prog_5_method_42_code 14 = .ok (.invokevirtual 73, 3) := by decide +kernel
theorem d73_17 : decode prog_5_method_42_code 17 = .ok (.ifCond .eq 20, 3) := by decide +kernel
theorem d73_20 : decode prog_5_method_42_code 20 = .ok (.aload_n 0, 1) := by decide +kernel
theorem d73_21 : decode prog_5_method_42_code 21 = .ok (.iload_n 3, 1) := by decide +kernel
theorem d73_22 : decode prog_5_method_42_code 22 = .ok (.invokevirtual 102, 3) := by decide +kernel
theorem d73_25 : decode prog_5_method_42_code 25 = .ok (.iload_n 2, 1) := by decide +kernel
theorem d73_26 : decode prog_5_method_42_code 26 = .ok (.if_icmp .le 11, 3) := by decide +kernel
theorem d73_29 : decode prog_5_method_42_code 29 = .ok (.iload_n 3, 1) := by decide +kernel
theorem d73_30 : decode prog_5_method_42_code 30 = .ok (.istore_n 1, 1) := by decide +kernel
theorem d73_31 : decode prog_5_method_42_code 31 = .ok (.aload_n 0, 1) := by decide +kernel
theorem d73_32 : decode prog_5_method_42_code 32 = .ok (.iload_n 3, 1) := by decide +kernel
theorem d73_33 : decode prog_5_method_42_code 33 = .ok (.invokevirtual 102, 3) := by decide +kernel
theorem d73_36 : decode prog_5_method_42_code 36 = .ok (.istore_n 2, 1) := by decide +kernel
theorem d73_37 : decode prog_5_method_42_code 37 = .ok (.iinc 3 1, 3) := by decide +kernel
theorem d73_40 : decode prog_5_method_42_code 40 = .ok (.goto (-34), 3) := by decide +kernel
theorem d73_43 : decode prog_5_method_42_code 43 = .ok (.iload_n 1, 1) := by decide +kernel
theorem d73_44 : decode prog_5_method_42_code 44 = .ok (.ireturn, 1) := by decide +kernel
theorem b73 {X : mj_X} {d : Nat} {w : mj_W} {x0 : Nat} : mj_call X d 73 [.ref x0] w = mj_exec X d 73 0 [some (.ref x0), none, none, none] [] w := mw_ent mw_m73 (Nat.le_of_ble_eq_true rfl) rfl
theorem b73_0 {X : mj_X} {d : Nat} {s : mw_S} {k0 : Nat} {l1 : Option Value} {l2 : Option Value} {l3 : Option Value} (h0 : mw_cl k0 = some 3) : mj_exec X d 73 0 [some (.ref k0), l1, l2, l3] [] (mw_U s) = mj_exec X d 73 6 [some (.ref k0), some (.int (-1)), some (.int (-1)), some (.int (nI 0))] [] (mw_U s) := (mj_q_iconst mw_m73 d73_0 mw_k_iconst_m1).trans ((mj_q_istore_n mw_m73 d73_1 (Nat.le_of_ble_eq_true rfl) rfl rfl).trans ((mj_q_iconst mw_m73 d73_2 mw_k_iconst_m1).trans ((mj_q_istore_n mw_m73 d73_3 (Nat.le_of_ble_eq_true rfl) rfl rfl).trans ((mj_q_iconst mw_m73 d73_4 mw_k_iconst_0).trans (mj_q_istore_n mw_m73 d73_5 (Nat.le_of_ble_eq_true rfl) rfl rfl)))))
theorem b73_6 {X : mj_X} {d : Nat} {s : mw_S} {k0 : Nat} {x1 : Int32} {x2 : Int32} {x3 : Int32} (h0 : mw_cl k0 = some 3) : mj_exec X d 73 6 [some (.ref k0), some (.int x1), some (.int x2), some (.int x3)] [] (mw_U s) = if (nI 8) ≤ x3 then mj_exec X d 73 43 [some (.ref k0), some (.int x1), some (.int x2), some (.int x3)] [] (mw_U s) else mj_exec X d 73 12 [some (.ref k0), some (.int x1), some (.int x2), some (.int x3)] [] (mw_U s) := (mj_q_iload_n mw_m73 d73_6 rfl).trans ((mj_q_bipush mw_m73 d73_7 mw_k_bipush_8).trans (mj_q_icmp_ge mw_m73 d73_9 rfl))
theorem b73_12 {X : mj_X} {d : Nat} {s : mw_S} {k0 : Nat} {x1 : Int32} {x2 : Int32} {x3 : Int32} (h0 : mw_cl k0 = some 3) : mj_exec X (d + 1) 73 12 [some (.ref k0), some (.int x1), some (.int x2), some (.int x3)] [] (mw_U s) = (mj_call X d 59 [.ref k0, .int x3] (mw_U s)).bind (mj_bk X (d + 1) 73 17 [some (.ref k0), some (.int x1), some (.int x2), some (.int x3)] []) := (mj_q_aload_n mw_m73 d73_12 rfl (mw_neo h0)).trans ((mj_q_iload_n mw_m73 d73_13 rfl).trans (mw_q_callv mw_m73 rfl d73_14 mw_p3_73 mw_m59 rfl rfl (Nat.le_of_ble_eq_true rfl) (Nat.le_of_ble_eq_true rfl) rfl (mw_rcv h0) rfl rfl))
theorem b73_17 {X : mj_X} {d : Nat} {s : mw_S} {k0 : Nat} {x1 : Int32} {x2 : Int32} {x3 : Int32} {xs0 : Int32} (h0 : mw_cl k0 = some 3) : mj_exec X d 73 17 [some (.ref k0), some (.int x1), some (.int x2), some (.int x3)] [.int xs0] (mw_U s) = if xs0 = 0 then mj_exec X d 73 37 [some (.ref k0), some (.int x1), some (.int x2), some (.int x3)] [] (mw_U s) else mj_exec X d 73 20 [some (.ref k0), some (.int x1), some (.int x2), some (.int x3)] [] (mw_U s) := mj_q_if_eq mw_m73 d73_17 rfl
theorem b73_20 {X : mj_X} {d : Nat} {s : mw_S} {k0 : Nat} {x1 : Int32} {x2 : Int32} {x3 : Int32} (h0 : mw_cl k0 = some 3) : mj_exec X (d + 1) 73 20 [some (.ref k0), some (.int x1), some (.int x2), some (.int x3)] [] (mw_U s) = (mj_call X d 69 [.ref k0, .int x3] (mw_U s)).bind (mj_bk X (d + 1) 73 25 [some (.ref k0), some (.int x1), some (.int x2), some (.int x3)] []) := (mj_q_aload_n mw_m73 d73_20 rfl (mw_neo h0)).trans ((mj_q_iload_n mw_m73 d73_21 rfl).trans (mw_q_callv mw_m73 rfl d73_22 mw_p3_102 mw_m69 rfl rfl (Nat.le_of_ble_eq_true rfl) (Nat.le_of_ble_eq_true rfl) rfl (mw_rcv h0) rfl rfl))
theorem b73_25 {X : mj_X} {d : Nat} {s : mw_S} {k0 : Nat} {x1 : Int32} {x2 : Int32} {x3 : Int32} {xs0 : Int32} (h0 : mw_cl k0 = some 3) : mj_exec X d 73 25 [some (.ref k0), some (.int x1), some (.int x2), some (.int x3)] [.int xs0] (mw_U s) = if xs0 ≤ x2 then mj_exec X d 73 37 [some (.ref k0), some (.int x1), some (.int x2), some (.int x3)] [] (mw_U s) else mj_exec X d 73 29 [some (.ref k0), some (.int x1), some (.int x2), some (.int x3)] [] (mw_U s) := (mj_q_iload_n mw_m73 d73_25 rfl).trans (mj_q_icmp_le mw_m73 d73_26 rfl)
theorem b73_29 {X : mj_X} {d : Nat} {s : mw_S} {k0 : Nat} {x1 : Int32} {x2 : Int32} {x3 : Int32} (h0 : mw_cl k0 = some 3) : mj_exec X (d + 1) 73 29 [some (.ref k0), some (.int x1), some (.int x2), some (.int x3)] [] (mw_U s) = (mj_call X d 69 [.ref k0, .int x3] (mw_U s)).bind (mj_bk X (d + 1) 73 36 [some (.ref k0), some (.int x3), some (.int x2), some (.int x3)] []) := (mj_q_iload_n mw_m73 d73_29 rfl).trans ((mj_q_istore_n mw_m73 d73_30 (Nat.le_of_ble_eq_true rfl) rfl rfl).trans ((mj_q_aload_n mw_m73 d73_31 rfl (mw_neo h0)).trans ((mj_q_iload_n mw_m73 d73_32 rfl).trans (mw_q_callv mw_m73 rfl d73_33 mw_p3_102 mw_m69 rfl rfl (Nat.le_of_ble_eq_true rfl) (Nat.le_of_ble_eq_true rfl) rfl (mw_rcv h0) rfl rfl))))
theorem b73_36 {X : mj_X} {d : Nat} {s : mw_S} {k0 : Nat} {x1 : Int32} {x2 : Int32} {x3 : Int32} {xs0 : Int32} (h0 : mw_cl k0 = some 3) : mj_exec X d 73 36 [some (.ref k0), some (.int x1), some (.int x2), some (.int x3)] [.int xs0] (mw_U s) = mj_exec X d 73 37 [some (.ref k0), some (.int x1), some (.int xs0), some (.int x3)] [] (mw_U s) := mj_q_istore_n mw_m73 d73_36 (Nat.le_of_ble_eq_true rfl) rfl rfl
theorem b73_37 {X : mj_X} {d : Nat} {s : mw_S} {k0 : Nat} {x1 : Int32} {x2 : Int32} {x3 : Int32} (h0 : mw_cl k0 = some 3) : mj_exec X d 73 37 [some (.ref k0), some (.int x1), some (.int x2), some (.int x3)] [] (mw_U s) = mj_exec X d 73 6 [some (.ref k0), some (.int x1), some (.int x2), some (.int (x3 + (nI 1)))] [] (mw_U s) := (mj_q_iinc mw_m73 d73_37 rfl (Nat.le_of_ble_eq_true rfl) rfl mw_k_iconst_1 rfl).trans (mj_q_goto mw_m73 d73_40 rfl)
theorem b73_43 {X : mj_X} {d : Nat} {s : mw_S} {k0 : Nat} {x1 : Int32} {x2 : Int32} {x3 : Int32} (h0 : mw_cl k0 = some 3) : mj_exec X d 73 43 [some (.ref k0), some (.int x1), some (.int x2), some (.int x3)] [] (mw_U s) = some (.inl (some (.int x1)), mw_U s) := (mj_q_iload_n mw_m73 d73_43 rfl).trans (mj_q_iret mw_m73 d73_44 rfl)
/-- WivesQuarrels$Folk.bestMatch -/
theorem d74_0 : decode prog_5_method_45_code 0 = .ok (.iconst (-1), 1) := by decide +kernel
theorem d74_1 : decode prog_5_method_45_code 1 = .ok (.istore_n 2, 1) := by decide +kernel
theorem d74_2 : decode prog_5_method_45_code 2 = .ok (.ldc 108, 2) := by decide +kernel
theorem d74_4 : decode prog_5_method_45_code 4 = .ok (.istore_n 3, 1) := by decide +kernel
theorem d74_5 : decode prog_5_method_45_code 5 = .ok (.iconst 0, 1) := by decide +kernel
theorem d74_6 : decode prog_5_method_45_code 6 = .ok (.istore 4, 2) := by decide +kernel
theorem d74_8 : decode prog_5_method_45_code 8 = .ok (.iload 4, 2) := by decide +kernel
theorem d74_10 : decode prog_5_method_45_code 10 = .ok (.bipush 8, 2) := by decide +kernel
theorem d74_12 : decode prog_5_method_45_code 12 = .ok (.if_icmp .ge 50, 3) := by decide +kernel
theorem d74_15 : decode prog_5_method_45_code 15 = .ok (.aload_n 0, 1) := by decide +kernel
theorem d74_16 : decode prog_5_method_45_code 16 = .ok (.iload 4, 2) := by decide +kernel
theorem d74_18 : decode prog_5_method_45_code 18 = .ok (.invokevirtual 102, 3) := by decide +kernel
theorem d74_21 : decode prog_5_method_45_code 21 = .ok (.aload_n 0, 1) := by decide +kernel
theorem d74_22 : decode prog_5_method_45_code 22 = .ok (.iload_n 1, 1) := by decide +kernel
theorem d74_23 : decode prog_5_method_45_code 23 = .ok (.iload 4, 2) := by decide +kernel
theorem d74_25 : decode prog_5_method_45_code 25 = .ok (.invokestatic 48, 3) := by decide +kernel
theorem d74_28 : decode prog_5_method_45_code 28 = .ok (.invokevirtual 35, 3) := by decide +kernel
theorem d74_31 : decode prog_5_method_45_code 31 = .ok (.isub, 1) := by decide +kernel
theorem d74_32 : decode prog_5_method_45_code 32 = .ok (.istore 5, 2) := by decide +kernel
theorem d74_34 : decode prog_5_method_45_code 34 = .ok (.aload_n 0, 1) := by decide +kernel
theorem d74_35 : decode prog_5_method_45_code 35 = .ok (.iload_n 1, 1) := by decide +kernel
theorem d74_36 : decode prog_5_method_45_code 36 = .ok (.iload 4, 2) := by decide +kernel
theorem d74_38 : decode prog_5_method_45_code 38 = .ok (.invokevirtual 109, 3) := by decide +kernel
theorem d74_41 : decode prog_5_method_45_code 41 = .ok (.ifCond .eq 15, 3) := by decide +kernel
theorem d74_44 : decode prog_5_method_45_code 44 = .ok (.iload 5, 2) := by decide +kernel
theorem d74_46 : decode prog_5_method_45_code 46 = .ok (.iload_n 3, 1) := by decide +kernel
theorem d74_47 : decode prog_5_method_45_code 47 = .ok (.if_icmp .ge 9, 3) := by decide +kernel
theorem d74_50 : decode prog_5_method_45_code 50 = .ok (.iload 4, 2) := by decide +kernel
theorem d74_52 : decode prog_5_method_45_code 52 = .ok (.istore_n 2, 1) := by decide +kernel
theorem d74_53 : decode prog_5_method_45_code 53 = .ok (.iload 5, 2) := by decide +kernel
theorem d74_55 : decode prog_5_method_45_code 55 = .ok (.istore_n 3, 1) := by decide +kernel
theorem d74_56 : decode prog_5_method_45_code 56 = .ok (.iinc 4 1, 3) := by decide +kernel
theorem d74_59 : decode prog_5_method_45_code 59 = .ok (.goto (-51), 3) := by decide +kernel
theorem d74_62 : decode prog_5_method_45_code 62 = .ok (.iload_n 2, 1) := by decide +kernel
theorem d74_63 : decode prog_5_method_45_code 63 = .ok (.ireturn, 1) := by decide +kernel
theorem b74 {X : mj_X} {d : Nat} {w : mj_W} {x0 : Nat} {x1 : Int32} : mj_call X d 74 [.ref x0, .int x1] w = mj_exec X d 74 0 [some (.ref x0), some (.int x1), none, none, none, none] [] w := mw_ent mw_m74 (Nat.le_of_ble_eq_true rfl) rfl
theorem b74_0 {X : mj_X} {d : Nat} {s : mw_S} {k0 : Nat} {x1 : Int32} {l2 : Option Value} {l3 : Option Value} {l4 : Option Value} {l5 : Option Value} (h0 : mw_cl k0 = some 3) : mj_exec X d 74 0 [some (.ref k0), some (.int x1), l2, l3, l4, l5] [] (mw_U s) = mj_exec X d 74 8 [some (.ref k0), some (.int x1), some (.int (-1)), some (.int (nI 2147483647)), some (.int (nI 0)), l5] [] (mw_U s) := (mj_q_iconst mw_m74 d74_0 mw_k_iconst_m1).trans ((mj_q_istore_n mw_m74 d74_1 (Nat.le_of_ble_eq_true rfl) rfl rfl).trans ((mj_q_ldci mw_m74 d74_2 mw_p3_108).trans ((mj_q_istore_n mw_m74 d74_4 (Nat.le_of_ble_eq_true rfl) rfl rfl).trans ((mj_q_iconst mw_m74 d74_5 mw_k_iconst_0).trans (mj_q_istore mw_m74 d74_6 (Nat.le_of_ble_eq_true rfl) rfl rfl)))))
theorem b74_8 {X : mj_X} {d : Nat} {s : mw_S} {k0 : Nat} {x1 : Int32} {x2 : Int32} {x3 : Int32} {x4 : Int32} {l5 : Option Value} (h0 : mw_cl k0 = some 3) : mj_exec X d 74 8 [some (.ref k0), some (.int x1), some (.int x2), some (.int x3), some (.int x4), l5] [] (mw_U s) = if (nI 8) ≤ x4 then mj_exec X d 74 62 [some (.ref k0), some (.int x1), some (.int x2), some (.int x3), some (.int x4), l5] [] (mw_U s) else mj_exec X d 74 15 [some (.ref k0), some (.int x1), some (.int x2), some (.int x3), some (.int x4), l5] [] (mw_U s) := (mj_q_iload mw_m74 d74_8 rfl).trans ((mj_q_bipush mw_m74 d74_10 mw_k_bipush_8).trans (mj_q_icmp_ge mw_m74 d74_12 rfl))
theorem b74_15 {X : mj_X} {d : Nat} {s : mw_S} {k0 : Nat} {x1 : Int32} {x2 : Int32} {x3 : Int32} {x4 : Int32} {l5 : Option Value} (h0 : mw_cl k0 = some 3) : mj_exec X (d + 1) 74 15 [some (.ref k0), some (.int x1), some (.int x2), some (.int x3), some (.int x4), l5] [] (mw_U s) = (mj_call X d 69 [.ref k0, .int x4] (mw_U s)).bind (mj_bk X (d + 1) 74 21 [some (.ref k0), some (.int x1), some (.int x2), some (.int x3), some (.int x4), l5] []) := (mj_q_aload_n mw_m74 d74_15 rfl (mw_neo h0)).trans ((mj_q_iload mw_m74 d74_16 rfl).trans (mw_q_callv mw_m74 rfl d74_18 mw_p3_102 mw_m69 rfl rfl (Nat.le_of_ble_eq_true rfl) (Nat.le_of_ble_eq_true rfl) rfl (mw_rcv h0) rfl rfl))
theorem b74_21 {X : mj_X} {d : Nat} {s : mw_S} {k0 : Nat} {x1 : Int32} {x2 : Int32} {x3 : Int32} {x4 : Int32} {l5 : Option Value} {xs0 : Int32} (h0 : mw_cl k0 = some 3) : mj_exec X (d + 1) 74 21 [some (.ref k0), some (.int x1), some (.int x2), some (.int x3), some (.int x4), l5] [.int xs0] (mw_U s) = (mj_call X d 153 [.int x1, .int x4] (mw_U s)).bind (mj_bk X (d + 1) 74 28 [some (.ref k0), some (.int x1), some (.int x2), some (.int x3), some (.int x4), l5] [.ref k0, .int xs0]) := (mj_q_aload_n mw_m74 d74_21 rfl (mw_neo h0)).trans ((mj_q_iload_n mw_m74 d74_22 rfl).trans ((mj_q_iload mw_m74 d74_23 rfl).trans (mw_q_calln mw_m74 rfl d74_25 mw_p3_48 mw_m153 rfl rfl (Nat.le_of_ble_eq_true rfl) (Nat.le_of_ble_eq_true rfl) rfl rfl)))
theorem b74_28 {X : mj_X} {d : Nat} {s : mw_S} {k0 : Nat} {x1 : Int32} {x2 : Int32} {x3 : Int32} {x4 : Int32} {l5 : Option Value} {xs0 : Int32} {ks1 : Nat} {xs2 : Int32} (h0 : mw_cl k0 = some 3) (hs1 : mw_cl ks1 = some 3) : mj_exec X (d + 1) 74 28 [some (.ref k0), some (.int x1), some (.int x2), some (.int x3), some (.int x4), l5] [.int xs2, .ref ks1, .int xs0] (mw_U s) = (mj_call X d 37 [.ref ks1, .int xs2] (mw_U s)).bind (mj_bk X (d + 1) 74 31 [some (.ref k0), some (.int x1), some (.int x2), some (.int x3), some (.int x4), l5] [.int xs0]) := mw_q_callv mw_m74 rfl d74_28 mw_p3_35 mw_m37 rfl rfl (Nat.le_of_ble_eq_true rfl) (Nat.le_of_ble_eq_true rfl) rfl (mw_rcv hs1) rfl rfl
theorem b74_31 {X : mj_X} {d : Nat} {s : mw_S} {k0 : Nat} {x1 : Int32} {x2 : Int32} {x3 : Int32} {x4 : Int32} {l5 : Option Value} {xs0 : Int32} {xs1 : Int32} (h0 : mw_cl k0 = some 3) : mj_exec X (d + 1) 74 31 [some (.ref k0), some (.int x1), some (.int x2), some (.int x3), some (.int x4), l5] [.int xs1, .int xs0] (mw_U s) = (mj_call X d 63 [.ref k0, .int x1, .int x4] (mw_U s)).bind (mj_bk X (d + 1) 74 41 [some (.ref k0), some (.int x1), some (.int x2), some (.int x3), some (.int x4), some (.int (xs0 - xs1))] []) := (mj_q_isub mw_m74 d74_31).trans ((mj_q_istore mw_m74 d74_32 (Nat.le_of_ble_eq_true rfl) rfl rfl).trans ((mj_q_aload_n mw_m74 d74_34 rfl (mw_neo h0)).trans ((mj_q_iload_n mw_m74 d74_35 rfl).trans ((mj_q_iload mw_m74 d74_36 rfl).trans (mw_q_callv mw_m74 rfl d74_38 mw_p3_109 mw_m63 rfl rfl (Nat.le_of_ble_eq_true rfl) (Nat.le_of_ble_eq_true rfl) rfl (mw_rcv h0) rfl rfl)))))
theorem b74_41 {X : mj_X} {d : Nat} {s : mw_S} {k0 : Nat} {x1 : Int32} {x2 : Int32} {x3 : Int32} {x4 : Int32} {x5 : Int32} {xs0 : Int32} (h0 : mw_cl k0 = some 3) : mj_exec X d 74 41 [some (.ref k0), some (.int x1), some (.int x2), some (.int x3), some (.int x4), some (.int x5)] [.int xs0] (mw_U s) = if xs0 = 0 then mj_exec X d 74 56 [some (.ref k0), some (.int x1), some (.int x2), some (.int x3), some (.int x4), some (.int x5)] [] (mw_U s) else mj_exec X d 74 44 [some (.ref k0), some (.int x1), some (.int x2), some (.int x3), some (.int x4), some (.int x5)] [] (mw_U s) := mj_q_if_eq mw_m74 d74_41 rfl
theorem b74_44 {X : mj_X} {d : Nat} {s : mw_S} {k0 : Nat} {x1 : Int32} {x2 : Int32} {x3 : Int32} {x4 : Int32} {x5 : Int32} (h0 : mw_cl k0 = some 3) : mj_exec X d 74 44 [some (.ref k0), some (.int x1), some (.int x2), some (.int x3), some (.int x4), some (.int x5)] [] (mw_U s) = if x3 ≤ x5 then mj_exec X d 74 56 [some (.ref k0), some (.int x1), some (.int x2), some (.int x3), some (.int x4), some (.int x5)] [] (mw_U s) else mj_exec X d 74 50 [some (.ref k0), some (.int x1), some (.int x2), some (.int x3), some (.int x4), some (.int x5)] [] (mw_U s) := (mj_q_iload mw_m74 d74_44 rfl).trans ((mj_q_iload_n mw_m74 d74_46 rfl).trans (mj_q_icmp_ge mw_m74 d74_47 rfl))
theorem b74_50 {X : mj_X} {d : Nat} {s : mw_S} {k0 : Nat} {x1 : Int32} {x2 : Int32} {x3 : Int32} {x4 : Int32} {x5 : Int32} (h0 : mw_cl k0 = some 3) : mj_exec X d 74 50 [some (.ref k0), some (.int x1), some (.int x2), some (.int x3), some (.int x4), some (.int x5)] [] (mw_U s) = mj_exec X d 74 56 [some (.ref k0), some (.int x1), some (.int x4), some (.int x5), some (.int x4), some (.int x5)] [] (mw_U s) := (mj_q_iload mw_m74 d74_50 rfl).trans ((mj_q_istore_n mw_m74 d74_52 (Nat.le_of_ble_eq_true rfl) rfl rfl).trans ((mj_q_iload mw_m74 d74_53 rfl).trans (mj_q_istore_n mw_m74 d74_55 (Nat.le_of_ble_eq_true rfl) rfl rfl)))
theorem b74_56 {X : mj_X} {d : Nat} {s : mw_S} {k0 : Nat} {x1 : Int32} {x2 : Int32} {x3 : Int32} {x4 : Int32} {x5 : Int32} (h0 : mw_cl k0 = some 3) : mj_exec X d 74 56 [some (.ref k0), some (.int x1), some (.int x2), some (.int x3), some (.int x4), some (.int x5)] [] (mw_U s) = mj_exec X d 74 8 [some (.ref k0), some (.int x1), some (.int x2), some (.int x3), some (.int (x4 + (nI 1))), some (.int x5)] [] (mw_U s) := (mj_q_iinc mw_m74 d74_56 rfl (Nat.le_of_ble_eq_true rfl) rfl mw_k_iconst_1 rfl).trans (mj_q_goto mw_m74 d74_59 rfl)
theorem b74_62 {X : mj_X} {d : Nat} {s : mw_S} {k0 : Nat} {x1 : Int32} {x2 : Int32} {x3 : Int32} {x4 : Int32} {l5 : Option Value} (h0 : mw_cl k0 = some 3) : mj_exec X d 74 62 [some (.ref k0), some (.int x1), some (.int x2), some (.int x3), some (.int x4), l5] [] (mw_U s) = some (.inl (some (.int x2)), mw_U s) := (mj_q_iload_n mw_m74 d74_62 rfl).trans (mj_q_iret mw_m74 d74_63 rfl)
/-- WivesQuarrels$Folk.mostCutting -/
theorem d75_0 : decode prog_5_method_43_code 0 = .ok (.iconst (-1), 1) := by decide +kernel
theorem d75_1 : decode prog_5_method_43_code 1 = .ok (.istore_n 1, 1) := by decide +kernel
theorem d75_2 : decode prog_5_method_43_code 2 = .ok (.iconst (-1), 1) := by decide +kernel
theorem d75_3 : decode prog_5_method_43_code 3 = .ok (.istore_n 2, 1) := by decide +kernel
theorem d75_4 : decode prog_5_method_43_code 4 = .ok (.iconst 0, 1) := by decide +kernel
theorem d75_5 : decode prog_5_method_43_code 5 = .ok (.istore_n 3, 1) := by decide +kernel
theorem d75_6 : decode prog_5_method_43_code 6 = .ok (.iload_n 3, 1) := by decide +kernel
theorem d75_7 : decode prog_5_method_43_code 7 = .ok (.bipush 8, 2) := by decide +kernel
theorem d75_9 : decode prog_5_method_43_code 9 = .ok (.if_icmp .ge 34, 3) := by decide +kernel
theorem d75_12 : decode prog_5_method_43_code 12 = .ok (.aload_n 0, 1) := by decide +kernel
theorem d75_13 : decode prog_5_method_43_code 13 = .ok (.iload_n 3, 1) := by decide +kernel
theorem d75_14 : decode prog_5_method_43_code 14 = .ok (.invokevirtual 73, 3) := by decide +kernel
theorem d75_17 : decode prog_5_method_43_code 17 = .ok (.ifCond .eq 20, 3) := by decide +kernel
theorem d75_20 : decode prog_5_method_43_code 20 = .ok (.aload_n 0, 1) := by decide +kernel
theorem d75_21 : decode prog_5_method_43_code 21 = .ok (.iload_n 3, 1) := by decide +kernel
theorem d75_22 : decode prog_5_method_43_code 22 = .ok (.invokevirtual 105, 3) := by decide +kernel
theorem d75_25 : decode prog_5_method_43_code 25 = .ok (.iload_n 2, 1) := by decide +kernel
theorem d75_26 : decode prog_5_method_43_code 26 = .ok (.if_icmp .le 11, 3) := by decide +kernel
theorem d75_29 : decode prog_5_method_43_code 29 = .ok (.iload_n 3, 1) := by decide +kernel
theorem d75_30 : decode prog_5_method_43_code 30 = .ok (.istore_n 1, 1) := by decide +kernel
theorem d75_31 : decode prog_5_method_43_code 31 = .ok (.aload_n 0, 1) := by decide +kernel
theorem d75_32 : decode prog_5_method_43_code 32 = .ok (.iload_n 3, 1) := by decide +kernel
theorem d75_33 : decode prog_5_method_43_code 33 = .ok (.invokevirtual 105, 3) := by decide +kernel
theorem d75_36 : decode prog_5_method_43_code 36 = .ok (.istore_n 2, 1) := by decide +kernel
theorem d75_37 : decode prog_5_method_43_code 37 = .ok (.iinc 3 1, 3) := by decide +kernel
theorem d75_40 : decode prog_5_method_43_code 40 = .ok (.goto (-34), 3) := by decide +kernel
theorem d75_43 : decode prog_5_method_43_code 43 = .ok (.iload_n 1, 1) := by decide +kernel
theorem d75_44 : decode prog_5_method_43_code 44 = .ok (.ireturn, 1) := by decide +kernel
theorem b75 {X : mj_X} {d : Nat} {w : mj_W} {x0 : Nat} : mj_call X d 75 [.ref x0] w = mj_exec X d 75 0 [some (.ref x0), none, none, none] [] w := mw_ent mw_m75 (Nat.le_of_ble_eq_true rfl) rfl
theorem b75_0 {X : mj_X} {d : Nat} {s : mw_S} {k0 : Nat} {l1 : Option Value} {l2 : Option Value} {l3 : Option Value} (h0 : mw_cl k0 = some 3) : mj_exec X d 75 0 [some (.ref k0), l1, l2, l3] [] (mw_U s) = mj_exec X d 75 6 [some (.ref k0), some (.int (-1)), some (.int (-1)), some (.int (nI 0))] [] (mw_U s) := (mj_q_iconst mw_m75 d75_0 mw_k_iconst_m1).trans ((mj_q_istore_n mw_m75 d75_1 (Nat.le_of_ble_eq_true rfl) rfl rfl).trans ((mj_q_iconst mw_m75 d75_2 mw_k_iconst_m1).trans ((mj_q_istore_n mw_m75 d75_3 (Nat.le_of_ble_eq_true rfl) rfl rfl).trans ((mj_q_iconst mw_m75 d75_4 mw_k_iconst_0).trans (mj_q_istore_n mw_m75 d75_5 (Nat.le_of_ble_eq_true rfl) rfl rfl)))))
theorem b75_6 {X : mj_X} {d : Nat} {s : mw_S} {k0 : Nat} {x1 : Int32} {x2 : Int32} {x3 : Int32} (h0 : mw_cl k0 = some 3) : mj_exec X d 75 6 [some (.ref k0), some (.int x1), some (.int x2), some (.int x3)] [] (mw_U s) = if (nI 8) ≤ x3 then mj_exec X d 75 43 [some (.ref k0), some (.int x1), some (.int x2), some (.int x3)] [] (mw_U s) else mj_exec X d 75 12 [some (.ref k0), some (.int x1), some (.int x2), some (.int x3)] [] (mw_U s) := (mj_q_iload_n mw_m75 d75_6 rfl).trans ((mj_q_bipush mw_m75 d75_7 mw_k_bipush_8).trans (mj_q_icmp_ge mw_m75 d75_9 rfl))
theorem b75_12 {X : mj_X} {d : Nat} {s : mw_S} {k0 : Nat} {x1 : Int32} {x2 : Int32} {x3 : Int32} (h0 : mw_cl k0 = some 3) : mj_exec X (d + 1) 75 12 [some (.ref k0), some (.int x1), some (.int x2), some (.int x3)] [] (mw_U s) = (mj_call X d 59 [.ref k0, .int x3] (mw_U s)).bind (mj_bk X (d + 1) 75 17 [some (.ref k0), some (.int x1), some (.int x2), some (.int x3)] []) := (mj_q_aload_n mw_m75 d75_12 rfl (mw_neo h0)).trans ((mj_q_iload_n mw_m75 d75_13 rfl).trans (mw_q_callv mw_m75 rfl d75_14 mw_p3_73 mw_m59 rfl rfl (Nat.le_of_ble_eq_true rfl) (Nat.le_of_ble_eq_true rfl) rfl (mw_rcv h0) rfl rfl))
theorem b75_17 {X : mj_X} {d : Nat} {s : mw_S} {k0 : Nat} {x1 : Int32} {x2 : Int32} {x3 : Int32} {xs0 : Int32} (h0 : mw_cl k0 = some 3) : mj_exec X d 75 17 [some (.ref k0), some (.int x1), some (.int x2), some (.int x3)] [.int xs0] (mw_U s) = if xs0 = 0 then mj_exec X d 75 37 [some (.ref k0), some (.int x1), some (.int x2), some (.int x3)] [] (mw_U s) else mj_exec X d 75 20 [some (.ref k0), some (.int x1), some (.int x2), some (.int x3)] [] (mw_U s) := mj_q_if_eq mw_m75 d75_17 rfl
theorem b75_20 {X : mj_X} {d : Nat} {s : mw_S} {k0 : Nat} {x1 : Int32} {x2 : Int32} {x3 : Int32} (h0 : mw_cl k0 = some 3) : mj_exec X (d + 1) 75 20 [some (.ref k0), some (.int x1), some (.int x2), some (.int x3)] [] (mw_U s) = (mj_call X d 76 [.ref k0, .int x3] (mw_U s)).bind (mj_bk X (d + 1) 75 25 [some (.ref k0), some (.int x1), some (.int x2), some (.int x3)] []) := (mj_q_aload_n mw_m75 d75_20 rfl (mw_neo h0)).trans ((mj_q_iload_n mw_m75 d75_21 rfl).trans (mw_q_callv mw_m75 rfl d75_22 mw_p3_105 mw_m76 rfl rfl (Nat.le_of_ble_eq_true rfl) (Nat.le_of_ble_eq_true rfl) rfl (mw_rcv h0) rfl rfl))
theorem b75_25 {X : mj_X} {d : Nat} {s : mw_S} {k0 : Nat} {x1 : Int32} {x2 : Int32} {x3 : Int32} {xs0 : Int32} (h0 : mw_cl k0 = some 3) : mj_exec X d 75 25 [some (.ref k0), some (.int x1), some (.int x2), some (.int x3)] [.int xs0] (mw_U s) = if xs0 ≤ x2 then mj_exec X d 75 37 [some (.ref k0), some (.int x1), some (.int x2), some (.int x3)] [] (mw_U s) else mj_exec X d 75 29 [some (.ref k0), some (.int x1), some (.int x2), some (.int x3)] [] (mw_U s) := (mj_q_iload_n mw_m75 d75_25 rfl).trans (mj_q_icmp_le mw_m75 d75_26 rfl)
theorem b75_29 {X : mj_X} {d : Nat} {s : mw_S} {k0 : Nat} {x1 : Int32} {x2 : Int32} {x3 : Int32} (h0 : mw_cl k0 = some 3) : mj_exec X (d + 1) 75 29 [some (.ref k0), some (.int x1), some (.int x2), some (.int x3)] [] (mw_U s) = (mj_call X d 76 [.ref k0, .int x3] (mw_U s)).bind (mj_bk X (d + 1) 75 36 [some (.ref k0), some (.int x3), some (.int x2), some (.int x3)] []) := (mj_q_iload_n mw_m75 d75_29 rfl).trans ((mj_q_istore_n mw_m75 d75_30 (Nat.le_of_ble_eq_true rfl) rfl rfl).trans ((mj_q_aload_n mw_m75 d75_31 rfl (mw_neo h0)).trans ((mj_q_iload_n mw_m75 d75_32 rfl).trans (mw_q_callv mw_m75 rfl d75_33 mw_p3_105 mw_m76 rfl rfl (Nat.le_of_ble_eq_true rfl) (Nat.le_of_ble_eq_true rfl) rfl (mw_rcv h0) rfl rfl))))
theorem b75_36 {X : mj_X} {d : Nat} {s : mw_S} {k0 : Nat} {x1 : Int32} {x2 : Int32} {x3 : Int32} {xs0 : Int32} (h0 : mw_cl k0 = some 3) : mj_exec X d 75 36 [some (.ref k0), some (.int x1), some (.int x2), some (.int x3)] [.int xs0] (mw_U s) = mj_exec X d 75 37 [some (.ref k0), some (.int x1), some (.int xs0), some (.int x3)] [] (mw_U s) := mj_q_istore_n mw_m75 d75_36 (Nat.le_of_ble_eq_true rfl) rfl rfl
theorem b75_37 {X : mj_X} {d : Nat} {s : mw_S} {k0 : Nat} {x1 : Int32} {x2 : Int32} {x3 : Int32} (h0 : mw_cl k0 = some 3) : mj_exec X d 75 37 [some (.ref k0), some (.int x1), some (.int x2), some (.int x3)] [] (mw_U s) = mj_exec X d 75 6 [some (.ref k0), some (.int x1), some (.int x2), some (.int (x3 + (nI 1)))] [] (mw_U s) := (mj_q_iinc mw_m75 d75_37 rfl (Nat.le_of_ble_eq_true rfl) rfl mw_k_iconst_1 rfl).trans (mj_q_goto mw_m75 d75_40 rfl)
theorem b75_43 {X : mj_X} {d : Nat} {s : mw_S} {k0 : Nat} {x1 : Int32} {x2 : Int32} {x3 : Int32} (h0 : mw_cl k0 = some 3) : mj_exec X d 75 43 [some (.ref k0), some (.int x1), some (.int x2), some (.int x3)] [] (mw_U s) = some (.inl (some (.int x1)), mw_U s) := (mj_q_iload_n mw_m75 d75_43 rfl).trans (mj_q_iret mw_m75 d75_44 rfl)
/-- WivesQuarrels$Folk.cutAround -/
theorem d76_0 : decode prog_5_method_44_code 0 = .ok (.iconst 0, 1) := by decide +kernel
theorem d76_1 : decode prog_5_method_44_code 1 = .ok (.istore_n 2, 1) := by decide +kernel
theorem d76_2 : decode prog_5_method_44_code 2 = .ok (.iconst 0, 1) := by decide +kernel
theorem d76_3 : decode prog_5_method_44_code 3 = .ok (.istore_n 3, 1) := by decide +kernel
theorem d76_4 : decode prog_5_method_44_code 4 = .ok (.iload_n 3, 1) := by decide +kernel
theorem d76_5 : decode prog_5_method_44_code 5 = .ok (.bipush 8, 2) := by decide +kernel
theorem d76_7 : decode prog_5_method_44_code 7 = .ok (.if_icmp .ge 21, 3) := by decide +kernel
theorem d76_10 : decode prog_5_method_44_code 10 = .ok (.iload_n 2, 1) := by decide +kernel
theorem d76_11 : decode prog_5_method_44_code 11 = .ok (.aload_n 0, 1) := by decide +kernel
theorem d76_12 : decode prog_5_method_44_code 12 = .ok (.iload_n 1, 1) := by decide +kernel
theorem d76_13 : decode prog_5_method_44_code 13 = .ok (.iload_n 3, 1) := by decide +kernel
theorem d76_14 : decode prog_5_method_44_code 14 = .ok (.invokestatic 48, 3) := by decide +kernel
theorem d76_17 : decode prog_5_method_44_code 17 = .ok (.invokevirtual 45, 3) := by decide +kernel
theorem d76_20 : decode prog_5_method_44_code 20 = .ok (.iadd, 1) := by decide +kernel
theorem d76_21 : decode prog_5_method_44_code 21 = .ok (.istore_n 2, 1) := by decide +kernel
theorem d76_22 : decode prog_5_method_44_code 22 = .ok (.iinc 3 1, 3) := by decide +kernel
theorem d76_25 : decode prog_5_method_44_code 25 = .ok (.goto (-21), 3) := by decide +kernel
theorem d76_28 : decode prog_5_method_44_code 28 = .ok (.iload_n 2, 1) := by decide +kernel
theorem d76_29 : decode prog_5_method_44_code 29 = .ok (.ireturn, 1) := by decide +kernel
theorem b76 {X : mj_X} {d : Nat} {w : mj_W} {x0 : Nat} {x1 : Int32} : mj_call X d 76 [.ref x0, .int x1] w = mj_exec X d 76 0 [some (.ref x0), some (.int x1), none, none] [] w := mw_ent mw_m76 (Nat.le_of_ble_eq_true rfl) rfl
theorem b76_0 {X : mj_X} {d : Nat} {s : mw_S} {k0 : Nat} {x1 : Int32} {l2 : Option Value} {l3 : Option Value} (h0 : mw_cl k0 = some 3) : mj_exec X d 76 0 [some (.ref k0), some (.int x1), l2, l3] [] (mw_U s) = mj_exec X d 76 4 [some (.ref k0), some (.int x1), some (.int (nI 0)), some (.int (nI 0))] [] (mw_U s) := (mj_q_iconst mw_m76 d76_0 mw_k_iconst_0).trans ((mj_q_istore_n mw_m76 d76_1 (Nat.le_of_ble_eq_true rfl) rfl rfl).trans ((mj_q_iconst mw_m76 d76_2 mw_k_iconst_0).trans (mj_q_istore_n mw_m76 d76_3 (Nat.le_of_ble_eq_true rfl) rfl rfl)))
theorem b76_4 {X : mj_X} {d : Nat} {s : mw_S} {k0 : Nat} {x1 : Int32} {x2 : Int32} {x3 : Int32} (h0 : mw_cl k0 = some 3) : mj_exec X d 76 4 [some (.ref k0), some (.int x1), some (.int x2), some (.int x3)] [] (mw_U s) = if (nI 8) ≤ x3 then mj_exec X d 76 28 [some (.ref k0), some (.int x1), some (.int x2), some (.int x3)] [] (mw_U s) else mj_exec X d 76 10 [some (.ref k0), some (.int x1), some (.int x2), some (.int x3)] [] (mw_U s) := (mj_q_iload_n mw_m76 d76_4 rfl).trans ((mj_q_bipush mw_m76 d76_5 mw_k_bipush_8).trans (mj_q_icmp_ge mw_m76 d76_7 rfl))
theorem b76_10 {X : mj_X} {d : Nat} {s : mw_S} {k0 : Nat} {x1 : Int32} {x2 : Int32} {x3 : Int32} (h0 : mw_cl k0 = some 3) : mj_exec X (d + 1) 76 10 [some (.ref k0), some (.int x1), some (.int x2), some (.int x3)] [] (mw_U s) = (mj_call X d 153 [.int x1, .int x3] (mw_U s)).bind (mj_bk X (d + 1) 76 17 [some (.ref k0), some (.int x1), some (.int x2), some (.int x3)] [.ref k0, .int x2]) := (mj_q_iload_n mw_m76 d76_10 rfl).trans ((mj_q_aload_n mw_m76 d76_11 rfl (mw_neo h0)).trans ((mj_q_iload_n mw_m76 d76_12 rfl).trans ((mj_q_iload_n mw_m76 d76_13 rfl).trans (mw_q_calln mw_m76 rfl d76_14 mw_p3_48 mw_m153 rfl rfl (Nat.le_of_ble_eq_true rfl) (Nat.le_of_ble_eq_true rfl) rfl rfl))))
theorem b76_17 {X : mj_X} {d : Nat} {s : mw_S} {k0 : Nat} {x1 : Int32} {x2 : Int32} {x3 : Int32} {xs0 : Int32} {ks1 : Nat} {xs2 : Int32} (h0 : mw_cl k0 = some 3) (hs1 : mw_cl ks1 = some 3) : mj_exec X (d + 1) 76 17 [some (.ref k0), some (.int x1), some (.int x2), some (.int x3)] [.int xs2, .ref ks1, .int xs0] (mw_U s) = (mj_call X d 41 [.ref ks1, .int xs2] (mw_U s)).bind (mj_bk X (d + 1) 76 20 [some (.ref k0), some (.int x1), some (.int x2), some (.int x3)] [.int xs0]) := mw_q_callv mw_m76 rfl d76_17 mw_p3_45 mw_m41 rfl rfl (Nat.le_of_ble_eq_true rfl) (Nat.le_of_ble_eq_true rfl) rfl (mw_rcv hs1) rfl rfl
theorem b76_20 {X : mj_X} {d : Nat} {s : mw_S} {k0 : Nat} {x1 : Int32} {x2 : Int32} {x3 : Int32} {xs0 : Int32} {xs1 : Int32} (h0 : mw_cl k0 = some 3) : mj_exec X d 76 20 [some (.ref k0), some (.int x1), some (.int x2), some (.int x3)] [.int xs1, .int xs0] (mw_U s) = mj_exec X d 76 4 [some (.ref k0), some (.int x1), some (.int (xs0 + xs1)), some (.int (x3 + (nI 1)))] [] (mw_U s) := (mj_q_iadd mw_m76 d76_20).trans ((mj_q_istore_n mw_m76 d76_21 (Nat.le_of_ble_eq_true rfl) rfl rfl).trans ((mj_q_iinc mw_m76 d76_22 rfl (Nat.le_of_ble_eq_true rfl) rfl mw_k_iconst_1 rfl).trans (mj_q_goto mw_m76 d76_25 rfl)))
theorem b76_28 {X : mj_X} {d : Nat} {s : mw_S} {k0 : Nat} {x1 : Int32} {x2 : Int32} {x3 : Int32} (h0 : mw_cl k0 = some 3) : mj_exec X d 76 28 [some (.ref k0), some (.int x1), some (.int x2), some (.int x3)] [] (mw_U s) = some (.inl (some (.int x2)), mw_U s) := (mj_q_iload_n mw_m76 d76_28 rfl).trans (mj_q_iret mw_m76 d76_29 rfl)
/-- WivesQuarrels$Folk.changeNerve -/
theorem d77_0 : decode prog_5_method_13_code 0 = .ok (.iload_n 1, 1) := by decide +kernel
theorem d77_1 : decode prog_5_method_13_code 1 = .ok (.invokestatic 27, 3) := by decide +kernel
theorem d77_4 : decode prog_5_method_13_code 4 = .ok (.ifCond .eq 12, 3) := by decide +kernel
theorem d77_7 : decode prog_5_method_13_code 7 = .ok (.aload_n 0, 1) := by decide +kernel
theorem d77_8 : decode prog_5_method_13_code 8 = .ok (.getfield 11, 3) := by decide +kernel
theorem d77_11 : decode prog_5_method_13_code 11 = .ok (.iconst 0, 1) := by decide +kernel
theorem d77_12 : decode prog_5_method_13_code 12 = .ok (.iload_n 1, 1) := by decide +kernel
theorem d77_13 : decode prog_5_method_13_code 13 = .ok (.iadd, 1) := by decide +kernel
theorem d77_14 : decode prog_5_method_13_code 14 = .ok (.iload_n 2, 1) := by decide +kernel
theorem d77_15 : decode prog_5_method_13_code 15 = .ok (.iastore, 1) := by decide +kernel
theorem d77_16 : decode prog_5_method_13_code 16 = .ok (.return_, 1) := by decide +kernel
theorem b77 {X : mj_X} {d : Nat} {w : mj_W} {x0 : Nat} {x1 : Int32} {x2 : Int32} : mj_call X d 77 [.ref x0, .int x1, .int x2] w = mj_exec X d 77 0 [some (.ref x0), some (.int x1), some (.int x2)] [] w := mw_ent mw_m77 (Nat.le_of_ble_eq_true rfl) rfl
theorem b77_0 {X : mj_X} {d : Nat} {s : mw_S} {k0 : Nat} {x1 : Int32} {x2 : Int32} (h0 : mw_cl k0 = some 3) : mj_exec X (d + 1) 77 0 [some (.ref k0), some (.int x1), some (.int x2)] [] (mw_U s) = (mj_call X d 39 [.int x1] (mw_U s)).bind (mj_bk X (d + 1) 77 4 [some (.ref k0), some (.int x1), some (.int x2)] []) := (mj_q_iload_n mw_m77 d77_0 rfl).trans (mw_q_calls mw_m77 rfl d77_1 mw_p3_27 mw_m39 rfl (Nat.le_of_ble_eq_true rfl) (Nat.le_of_ble_eq_true rfl) rfl rfl)
theorem b77_4 {X : mj_X} {d : Nat} {s : mw_S} {k0 : Nat} {x1 : Int32} {x2 : Int32} {xs0 : Int32} (h0 : mw_cl k0 = some 3) : mj_exec X d 77 4 [some (.ref k0), some (.int x1), some (.int x2)] [.int xs0] (mw_U s) = if xs0 = 0 then mj_exec X d 77 16 [some (.ref k0), some (.int x1), some (.int x2)] [] (mw_U s) else mj_exec X d 77 7 [some (.ref k0), some (.int x1), some (.int x2)] [] (mw_U s) := mj_q_if_eq mw_m77 d77_4 rfl
theorem b77_7 {X : mj_X} {d : Nat} {s : mw_S} {k0 : Nat} {x1 : Int32} {x2 : Int32} (h0 : mw_cl k0 = some 3) : mj_exec X d 77 7 [some (.ref k0), some (.int x1), some (.int x2)] [] (mw_U s) = if mw_in 64 ((nI 0) + x1) = true then mj_exec X d 77 16 [some (.ref k0), some (.int x1), some (.int x2)] [] (mw_U (mw_p s (k0 + 1) (((nI 0) + x1)).toNatClampNeg x2)) else none := (mj_q_aload_n mw_m77 d77_7 rfl (mw_neo h0)).trans ((mw_q_getr mw_m77 d77_8 mw_p3_11 h0 (mw_f3_0 h0)).trans ((mj_q_iconst mw_m77 d77_11 mw_k_iconst_0).trans ((mj_q_iload_n mw_m77 d77_12 rfl).trans ((mj_q_iadd mw_m77 d77_13).trans ((mj_q_iload_n mw_m77 d77_14 rfl).trans ((mw_h_iast mw_m77 d77_15 (mw_a3_0 h0)).trans (mw_g (rfl))))))))
theorem b77_16 {X : mj_X} {d : Nat} {s : mw_S} {k0 : Nat} {x1 : Int32} {x2 : Int32} (h0 : mw_cl k0 = some 3) : mj_exec X d 77 16 [some (.ref k0), some (.int x1), some (.int x2)] [] (mw_U s) = some (.inl none, mw_U s) := mj_q_vret mw_m77 d77_16 rfl
