/-! the methods of WivesQuarrels$Books, WivesQuarrels$Rules, run by run: printed by wip/whole/gen30.py -/
/-- WivesQuarrels$Books.folk -/
theorem d1_0 : decode prog_2_method_2_code 0 = .ok (.aload_n 0, 1) := by decide +kernel
theorem d1_1 : decode prog_2_method_2_code 1 = .ok (.getfield 12, 3) := by decide +kernel
theorem d1_4 : decode prog_2_method_2_code 4 = .ok (.areturn, 1) := by decide +kernel
theorem b1 {X : mj_X} {d : Nat} {w : mj_W} {x0 : Nat} : mj_call X d 1 [.ref x0] w = mj_exec X d 1 0 [some (.ref x0)] [] w := mw_ent mw_m1 (Nat.le_of_ble_eq_true rfl) rfl
theorem b1_0 {X : mj_X} {d : Nat} {s : mw_S} {k0 : Nat} (h0 : mw_cl k0 = some 0) : mj_exec X d 1 0 [some (.ref k0)] [] (mw_U s) = some (.inl (some (.ref (k0 + 1))), mw_U s) := (mj_q_aload_n mw_m1 d1_0 rfl (mw_neo h0)).trans ((mw_q_getr mw_m1 d1_1 mw_p0_12 h0 (mw_f0_0 h0)).trans (mj_q_aret mw_m1 d1_4 rfl (mw_neo (mw_o0_0 h0))))
/-- WivesQuarrels$Books.refuse -/
theorem d2_0 : decode prog_2_method_6_code 0 = .ok (.iload_n 1, 1) := by decide +kernel
theorem d2_1 : decode prog_2_method_6_code 1 = .ok (.ifCond .lt 18, 3) := by decide +kernel
theorem d2_4 : decode prog_2_method_6_code 4 = .ok (.iload_n 1, 1) := by decide +kernel
theorem d2_5 : decode prog_2_method_6_code 5 = .ok (.iconst 2, 1) := by decide +kernel
theorem d2_6 : decode prog_2_method_6_code 6 = .ok (.if_icmp .gt 13, 3) := by decide +kernel
theorem d2_9 : decode prog_2_method_6_code 9 = .ok (.aload_n 0, 1) := by decide +kernel
theorem d2_10 : decode prog_2_method_6_code 10 = .ok (.getfield 41, 3) := by decide +kernel
theorem d2_13 : decode prog_2_method_6_code 13 = .ok (.iload_n 1, 1) := by decide +kernel
theorem d2_14 : decode prog_2_method_6_code 14 = .ok (.dup2, 1) := by decide +kernel
theorem d2_15 : decode prog_2_method_6_code 15 = .ok (.iaload, 1) := by decide +kernel
theorem d2_16 : decode prog_2_method_6_code 16 = .ok (.iconst 1, 1) := by decide +kernel
theorem d2_17 : decode prog_2_method_6_code 17 = .ok (.iadd, 1) := by decide +kernel
theorem d2_18 : decode prog_2_method_6_code 18 = .ok (.iastore, 1) := by decide +kernel
theorem d2_19 : decode prog_2_method_6_code 19 = .ok (.iconst (-1), 1) := by decide +kernel
theorem d2_20 : decode prog_2_method_6_code 20 = .ok (.ireturn, 1) := by decide +kernel
theorem b2 {X : mj_X} {d : Nat} {w : mj_W} {x0 : Nat} {x1 : Int32} : mj_call X d 2 [.ref x0, .int x1] w = mj_exec X d 2 0 [some (.ref x0), some (.int x1)] [] w := mw_ent mw_m2 (Nat.le_of_ble_eq_true rfl) rfl
theorem b2_0 {X : mj_X} {d : Nat} {s : mw_S} {k0 : Nat} {x1 : Int32} (h0 : mw_cl k0 = some 0) : mj_exec X d 2 0 [some (.ref k0), some (.int x1)] [] (mw_U s) = if x1 < 0 then mj_exec X d 2 19 [some (.ref k0), some (.int x1)] [] (mw_U s) else mj_exec X d 2 4 [some (.ref k0), some (.int x1)] [] (mw_U s) := (mj_q_iload_n mw_m2 d2_0 rfl).trans (mj_q_if_lt mw_m2 d2_1 rfl)
theorem b2_4 {X : mj_X} {d : Nat} {s : mw_S} {k0 : Nat} {x1 : Int32} (h0 : mw_cl k0 = some 0) : mj_exec X d 2 4 [some (.ref k0), some (.int x1)] [] (mw_U s) = if (nI 2) < x1 then mj_exec X d 2 19 [some (.ref k0), some (.int x1)] [] (mw_U s) else mj_exec X d 2 9 [some (.ref k0), some (.int x1)] [] (mw_U s) := (mj_q_iload_n mw_m2 d2_4 rfl).trans ((mj_q_iconst mw_m2 d2_5 mw_k_iconst_2).trans (mj_q_icmp_gt mw_m2 d2_6 rfl))
theorem b2_9 {X : mj_X} {d : Nat} {s : mw_S} {k0 : Nat} {x1 : Int32} (h0 : mw_cl k0 = some 0) : mj_exec X d 2 9 [some (.ref k0), some (.int x1)] [] (mw_U s) = if mw_in 3 x1 = true then if mw_in 3 x1 = true then mj_exec X d 2 19 [some (.ref k0), some (.int x1)] [] (mw_U (mw_p s (k0 + 7) (x1).toNatClampNeg ((s.1 (k0 + 7) (x1).toNatClampNeg) + (nI 1)))) else none else none := (mj_q_aload_n mw_m2 d2_9 rfl (mw_neo h0)).trans ((mw_q_getr mw_m2 d2_10 mw_p0_41 h0 (mw_f0_8 h0)).trans ((mj_q_iload_n mw_m2 d2_13 rfl).trans ((mj_q_dup2 mw_m2 d2_14 rfl rfl).trans ((mw_h_iald mw_m2 d2_15 (mw_a0_8 h0)).trans (mw_g ((mj_q_iconst mw_m2 d2_16 mw_k_iconst_1).trans ((mj_q_iadd mw_m2 d2_17).trans ((mw_h_iast mw_m2 d2_18 (mw_a0_8 h0)).trans (mw_g (rfl))))))))))
theorem b2_19 {X : mj_X} {d : Nat} {s : mw_S} {k0 : Nat} {x1 : Int32} (h0 : mw_cl k0 = some 0) : mj_exec X d 2 19 [some (.ref k0), some (.int x1)] [] (mw_U s) = some (.inl (some (.int (-1))), mw_U s) := (mj_q_iconst mw_m2 d2_19 mw_k_iconst_m1).trans (mj_q_iret mw_m2 d2_20 rfl)
/-- WivesQuarrels$Books.keepAct -/
theorem d3_0 : decode prog_2_method_9_code 0 = .ok (.aload_n 0, 1) := by decide +kernel
theorem d3_1 : decode prog_2_method_9_code 1 = .ok (.getfield 12, 3) := by decide +kernel
theorem d3_4 : decode prog_2_method_9_code 4 = .ok (.aload_n 0, 1) := by decide +kernel
theorem d3_5 : decode prog_2_method_9_code 5 = .ok (.getfield 18, 3) := by decide +kernel
theorem d3_8 : decode prog_2_method_9_code 8 = .ok (.aload_n 0, 1) := by decide +kernel
theorem d3_9 : decode prog_2_method_9_code 9 = .ok (.getfield 22, 3) := by decide +kernel
theorem d3_12 : decode prog_2_method_9_code 12 = .ok (.aload_n 0, 1) := by decide +kernel
theorem d3_13 : decode prog_2_method_9_code 13 = .ok (.getfield 26, 3) := by decide +kernel
theorem d3_16 : decode prog_2_method_9_code 16 = .ok (.iadd, 1) := by decide +kernel
theorem d3_17 : decode prog_2_method_9_code 17 = .ok (.bipush 40, 2) := by decide +kernel
theorem d3_19 : decode prog_2_method_9_code 19 = .ok (.irem, 1) := by decide +kernel
theorem d3_20 : decode prog_2_method_9_code 20 = .ok (.invokevirtual 54, 3) := by decide +kernel
theorem d3_23 : decode prog_2_method_9_code 23 = .ok (.aload_n 0, 1) := by decide +kernel
theorem d3_24 : decode prog_2_method_9_code 24 = .ok (.getfield 26, 3) := by decide +kernel
theorem d3_27 : decode prog_2_method_9_code 27 = .ok (.bipush 40, 2) := by decide +kernel
theorem d3_29 : decode prog_2_method_9_code 29 = .ok (.if_icmp .ge 16, 3) := by decide +kernel
theorem d3_32 : decode prog_2_method_9_code 32 = .ok (.aload_n 0, 1) := by decide +kernel
theorem d3_33 : decode prog_2_method_9_code 33 = .ok (.dup, 1) := by decide +kernel
theorem d3_34 : decode prog_2_method_9_code 34 = .ok (.getfield 26, 3) := by decide +kernel
theorem d3_37 : decode prog_2_method_9_code 37 = .ok (.iconst 1, 1) := by decide +kernel
theorem d3_38 : decode prog_2_method_9_code 38 = .ok (.iadd, 1) := by decide +kernel
theorem d3_39 : decode prog_2_method_9_code 39 = .ok (.putfield 26, 3) := by decide +kernel
theorem d3_42 : decode prog_2_method_9_code 42 = .ok (.goto 16, 3) := by decide +kernel
theorem d3_45 : decode prog_2_method_9_code 45 = .ok (.aload_n 0, 1) := by decide +kernel
theorem d3_46 : decode prog_2_method_9_code 46 = .ok (.aload_n 0, 1) := by decide +kernel
theorem d3_47 : decode prog_2_method_9_code 47 = .ok (.getfield 22, 3) := by decide +kernel
theorem d3_50 : decode prog_2_method_9_code 50 = .ok (.iconst 1, 1) := by decide +kernel
theorem d3_51 : decode prog_2_method_9_code 51 = .ok (.iadd, 1) := by decide +kernel
theorem d3_52 : decode prog_2_method_9_code 52 = .ok (.bipush 40, 2) := by decide +kernel
theorem d3_54 : decode prog_2_method_9_code 54 = .ok (.irem, 1) := by decide +kernel
theorem d3_55 : decode prog_2_method_9_code 55 = .ok (.putfield 22, 3) := by decide +kernel
theorem d3_58 : decode prog_2_method_9_code 58 = .ok (.return_, 1) := by decide +kernel
theorem b3 {X : mj_X} {d : Nat} {w : mj_W} {x0 : Nat} : mj_call X d 3 [.ref x0] w = mj_exec X d 3 0 [some (.ref x0)] [] w := mw_ent mw_m3 (Nat.le_of_ble_eq_true rfl) rfl
theorem b3_0 {X : mj_X} {d : Nat} {s : mw_S} {k0 : Nat} (h0 : mw_cl k0 = some 0) : mj_exec X (d + 1) 3 0 [some (.ref k0)] [] (mw_U s) = if mw_nz (nI 40) = true then (mj_call X d 35 [.ref (k0 + 1), .ref (k0 + 3), .int (((s.1 k0 2) + (s.1 k0 3)) - ((s.1 k0 2) + (s.1 k0 3)) / (nI 40) * (nI 40))] (mw_U s)).bind (mj_bk X (d + 1) 3 23 [some (.ref k0)] []) else none := (mj_q_aload_n mw_m3 d3_0 rfl (mw_neo h0)).trans ((mw_q_getr mw_m3 d3_1 mw_p0_12 h0 (mw_f0_0 h0)).trans ((mj_q_aload_n mw_m3 d3_4 rfl (mw_neo h0)).trans ((mw_q_getr mw_m3 d3_5 mw_p0_18 h0 (mw_f0_1 h0)).trans ((mj_q_aload_n mw_m3 d3_8 rfl (mw_neo h0)).trans ((mw_q_geti mw_m3 d3_9 mw_p0_22 h0 (mw_f0_2 h0)).trans ((mj_q_aload_n mw_m3 d3_12 rfl (mw_neo h0)).trans ((mw_q_geti mw_m3 d3_13 mw_p0_26 h0 (mw_f0_3 h0)).trans ((mj_q_iadd mw_m3 d3_16).trans ((mj_q_bipush mw_m3 d3_17 mw_k_bipush_40).trans ((mw_h_irem mw_m3 d3_19).trans (mw_g (mw_q_callv mw_m3 rfl d3_20 mw_p0_54 mw_m35 rfl rfl (Nat.le_of_ble_eq_true rfl) (Nat.le_of_ble_eq_true rfl) rfl (mw_rcv (mw_o0_0 h0)) rfl rfl))))))))))))
theorem b3_23 {X : mj_X} {d : Nat} {s : mw_S} {k0 : Nat} (h0 : mw_cl k0 = some 0) : mj_exec X d 3 23 [some (.ref k0)] [] (mw_U s) = if (nI 40) ≤ (s.1 k0 3) then mj_exec X d 3 45 [some (.ref k0)] [] (mw_U s) else mj_exec X d 3 32 [some (.ref k0)] [] (mw_U s) := (mj_q_aload_n mw_m3 d3_23 rfl (mw_neo h0)).trans ((mw_q_geti mw_m3 d3_24 mw_p0_26 h0 (mw_f0_3 h0)).trans ((mj_q_bipush mw_m3 d3_27 mw_k_bipush_40).trans (mj_q_icmp_ge mw_m3 d3_29 rfl)))
theorem b3_32 {X : mj_X} {d : Nat} {s : mw_S} {k0 : Nat} (h0 : mw_cl k0 = some 0) : mj_exec X d 3 32 [some (.ref k0)] [] (mw_U s) = mj_exec X d 3 58 [some (.ref k0)] [] (mw_U (mw_p s k0 3 ((s.1 k0 3) + (nI 1)))) := (mj_q_aload_n mw_m3 d3_32 rfl (mw_neo h0)).trans ((mj_q_dup mw_m3 d3_33 rfl).trans ((mw_q_geti mw_m3 d3_34 mw_p0_26 h0 (mw_f0_3 h0)).trans ((mj_q_iconst mw_m3 d3_37 mw_k_iconst_1).trans ((mj_q_iadd mw_m3 d3_38).trans ((mw_q_puti mw_m3 d3_39 mw_p0_26 h0 (mw_f0_3 h0) (by decide) rfl (.inl rfl)).trans (mj_q_goto mw_m3 d3_42 rfl))))))
theorem b3_45 {X : mj_X} {d : Nat} {s : mw_S} {k0 : Nat} (h0 : mw_cl k0 = some 0) : mj_exec X d 3 45 [some (.ref k0)] [] (mw_U s) = if mw_nz (nI 40) = true then mj_exec X d 3 58 [some (.ref k0)] [] (mw_U (mw_p s k0 2 (((s.1 k0 2) + (nI 1)) - ((s.1 k0 2) + (nI 1)) / (nI 40) * (nI 40)))) else none := (mj_q_aload_n mw_m3 d3_45 rfl (mw_neo h0)).trans ((mj_q_aload_n mw_m3 d3_46 rfl (mw_neo h0)).trans ((mw_q_geti mw_m3 d3_47 mw_p0_22 h0 (mw_f0_2 h0)).trans ((mj_q_iconst mw_m3 d3_50 mw_k_iconst_1).trans ((mj_q_iadd mw_m3 d3_51).trans ((mj_q_bipush mw_m3 d3_52 mw_k_bipush_40).trans ((mw_h_irem mw_m3 d3_54).trans (mw_g (mw_q_puti mw_m3 d3_55 mw_p0_22 h0 (mw_f0_2 h0) (by decide) rfl (.inl rfl)))))))))
theorem b3_58 {X : mj_X} {d : Nat} {s : mw_S} {k0 : Nat} (h0 : mw_cl k0 = some 0) : mj_exec X d 3 58 [some (.ref k0)] [] (mw_U s) = some (.inl none, mw_U s) := mj_q_vret mw_m3 d3_58 rfl
/-- WivesQuarrels$Books.takeBackAct -/
theorem d4_0 : decode prog_2_method_10_code 0 = .ok (.aload_n 0, 1) := by decide +kernel
theorem d4_1 : decode prog_2_method_10_code 1 = .ok (.getfield 26, 3) := by decide +kernel
theorem d4_4 : decode prog_2_method_10_code 4 = .ok (.ifCond .ne 5, 3) := by decide +kernel
theorem d4_7 : decode prog_2_method_10_code 7 = .ok (.iconst (-1), 1) := by decide +kernel
theorem d4_8 : decode prog_2_method_10_code 8 = .ok (.ireturn, 1) := by decide +kernel
theorem d4_9 : decode prog_2_method_10_code 9 = .ok (.aload_n 0, 1) := by decide +kernel
theorem d4_10 : decode prog_2_method_10_code 10 = .ok (.dup, 1) := by decide +kernel
theorem d4_11 : decode prog_2_method_10_code 11 = .ok (.getfield 26, 3) := by decide +kernel
theorem d4_14 : decode prog_2_method_10_code 14 = .ok (.iconst 1, 1) := by decide +kernel
theorem d4_15 : decode prog_2_method_10_code 15 = .ok (.isub, 1) := by decide +kernel
theorem d4_16 : decode prog_2_method_10_code 16 = .ok (.putfield 26, 3) := by decide +kernel
theorem d4_19 : decode prog_2_method_10_code 19 = .ok (.aload_n 0, 1) := by decide +kernel
theorem d4_20 : decode prog_2_method_10_code 20 = .ok (.getfield 12, 3) := by decide +kernel
theorem d4_23 : decode prog_2_method_10_code 23 = .ok (.aload_n 0, 1) := by decide +kernel
theorem d4_24 : decode prog_2_method_10_code 24 = .ok (.getfield 18, 3) := by decide +kernel
theorem d4_27 : decode prog_2_method_10_code 27 = .ok (.aload_n 0, 1) := by decide +kernel
theorem d4_28 : decode prog_2_method_10_code 28 = .ok (.getfield 22, 3) := by decide +kernel
theorem d4_31 : decode prog_2_method_10_code 31 = .ok (.aload_n 0, 1) := by decide +kernel
theorem d4_32 : decode prog_2_method_10_code 32 = .ok (.getfield 26, 3) := by decide +kernel
theorem d4_35 : decode prog_2_method_10_code 35 = .ok (.iadd, 1) := by decide +kernel
theorem d4_36 : decode prog_2_method_10_code 36 = .ok (.bipush 40, 2) := by decide +kernel
theorem d4_38 : decode prog_2_method_10_code 38 = .ok (.irem, 1) := by decide +kernel
theorem d4_39 : decode prog_2_method_10_code 39 = .ok (.invokevirtual 58, 3) := by decide +kernel
theorem d4_42 : decode prog_2_method_10_code 42 = .ok (.aload_n 0, 1) := by decide +kernel
theorem d4_43 : decode prog_2_method_10_code 43 = .ok (.getfield 26, 3) := by decide +kernel
theorem d4_46 : decode prog_2_method_10_code 46 = .ok (.ireturn, 1) := by decide +kernel
theorem b4 {X : mj_X} {d : Nat} {w : mj_W} {x0 : Nat} : mj_call X d 4 [.ref x0] w = mj_exec X d 4 0 [some (.ref x0)] [] w := mw_ent mw_m4 (Nat.le_of_ble_eq_true rfl) rfl
theorem b4_0 {X : mj_X} {d : Nat} {s : mw_S} {k0 : Nat} (h0 : mw_cl k0 = some 0) : mj_exec X d 4 0 [some (.ref k0)] [] (mw_U s) = if (s.1 k0 3) = 0 then mj_exec X d 4 7 [some (.ref k0)] [] (mw_U s) else mj_exec X d 4 9 [some (.ref k0)] [] (mw_U s) := (mj_q_aload_n mw_m4 d4_0 rfl (mw_neo h0)).trans ((mw_q_geti mw_m4 d4_1 mw_p0_26 h0 (mw_f0_3 h0)).trans (mj_q_if_ne mw_m4 d4_4 rfl))
theorem b4_7 {X : mj_X} {d : Nat} {s : mw_S} {k0 : Nat} (h0 : mw_cl k0 = some 0) : mj_exec X d 4 7 [some (.ref k0)] [] (mw_U s) = some (.inl (some (.int (-1))), mw_U s) := (mj_q_iconst mw_m4 d4_7 mw_k_iconst_m1).trans (mj_q_iret mw_m4 d4_8 rfl)
theorem b4_9 {X : mj_X} {d : Nat} {s : mw_S} {k0 : Nat} (h0 : mw_cl k0 = some 0) : mj_exec X (d + 1) 4 9 [some (.ref k0)] [] (mw_U s) = if mw_nz (nI 40) = true then (mj_call X d 46 [.ref (k0 + 1), .ref (k0 + 3), .int ((((mw_p s k0 3 ((s.1 k0 3) - (nI 1))).1 k0 2) + ((mw_p s k0 3 ((s.1 k0 3) - (nI 1))).1 k0 3)) - (((mw_p s k0 3 ((s.1 k0 3) - (nI 1))).1 k0 2) + ((mw_p s k0 3 ((s.1 k0 3) - (nI 1))).1 k0 3)) / (nI 40) * (nI 40))] (mw_U (mw_p s k0 3 ((s.1 k0 3) - (nI 1))))).bind (mj_bk X (d + 1) 4 42 [some (.ref k0)] []) else none := (mj_q_aload_n mw_m4 d4_9 rfl (mw_neo h0)).trans ((mj_q_dup mw_m4 d4_10 rfl).trans ((mw_q_geti mw_m4 d4_11 mw_p0_26 h0 (mw_f0_3 h0)).trans ((mj_q_iconst mw_m4 d4_14 mw_k_iconst_1).trans ((mj_q_isub mw_m4 d4_15).trans ((mw_q_puti mw_m4 d4_16 mw_p0_26 h0 (mw_f0_3 h0) (by decide) rfl (.inl rfl)).trans ((mj_q_aload_n mw_m4 d4_19 rfl (mw_neo h0)).trans ((mw_q_getr mw_m4 d4_20 mw_p0_12 h0 (mw_f0_0 h0)).trans ((mj_q_aload_n mw_m4 d4_23 rfl (mw_neo h0)).trans ((mw_q_getr mw_m4 d4_24 mw_p0_18 h0 (mw_f0_1 h0)).trans ((mj_q_aload_n mw_m4 d4_27 rfl (mw_neo h0)).trans ((mw_q_geti mw_m4 d4_28 mw_p0_22 h0 (mw_f0_2 h0)).trans ((mj_q_aload_n mw_m4 d4_31 rfl (mw_neo h0)).trans ((mw_q_geti mw_m4 d4_32 mw_p0_26 h0 (mw_f0_3 h0)).trans ((mj_q_iadd mw_m4 d4_35).trans ((mj_q_bipush mw_m4 d4_36 mw_k_bipush_40).trans ((mw_h_irem mw_m4 d4_38).trans (mw_g (mw_q_callv mw_m4 rfl d4_39 mw_p0_58 mw_m46 rfl rfl (Nat.le_of_ble_eq_true rfl) (Nat.le_of_ble_eq_true rfl) rfl (mw_rcv (mw_o0_0 h0)) rfl rfl))))))))))))))))))
theorem b4_42 {X : mj_X} {d : Nat} {s : mw_S} {k0 : Nat} (h0 : mw_cl k0 = some 0) : mj_exec X d 4 42 [some (.ref k0)] [] (mw_U s) = some (.inl (some (.int (s.1 k0 3))), mw_U s) := (mj_q_aload_n mw_m4 d4_42 rfl (mw_neo h0)).trans ((mw_q_geti mw_m4 d4_43 mw_p0_26 h0 (mw_f0_3 h0)).trans (mj_q_iret mw_m4 d4_46 rfl))
/-- WivesQuarrels$Books.dropSights -/
theorem d5_0 : decode prog_2_method_12_code 0 = .ok (.aload_n 0, 1) := by decide +kernel
theorem d5_1 : decode prog_2_method_12_code 1 = .ok (.iconst 0, 1) := by decide +kernel
theorem d5_2 : decode prog_2_method_12_code 2 = .ok (.putfield 38, 3) := by decide +kernel
theorem d5_5 : decode prog_2_method_12_code 5 = .ok (.return_, 1) := by decide +kernel
theorem b5 {X : mj_X} {d : Nat} {w : mj_W} {x0 : Nat} : mj_call X d 5 [.ref x0] w = mj_exec X d 5 0 [some (.ref x0)] [] w := mw_ent mw_m5 (Nat.le_of_ble_eq_true rfl) rfl
theorem b5_0 {X : mj_X} {d : Nat} {s : mw_S} {k0 : Nat} (h0 : mw_cl k0 = some 0) : mj_exec X d 5 0 [some (.ref k0)] [] (mw_U s) = some (.inl none, mw_U (mw_p s k0 7 (nI 0))) := (mj_q_aload_n mw_m5 d5_0 rfl (mw_neo h0)).trans ((mj_q_iconst mw_m5 d5_1 mw_k_iconst_0).trans ((mw_q_puti mw_m5 d5_2 mw_p0_38 h0 (mw_f0_7 h0) (by decide) rfl (.inl rfl)).trans (mj_q_vret mw_m5 d5_5 rfl)))
/-- WivesQuarrels$Books.copyFrom -/
theorem d6_0 : decode prog_2_method_8_code 0 = .ok (.aload_n 0, 1) := by decide +kernel
theorem d6_1 : decode prog_2_method_8_code 1 = .ok (.getfield 12, 3) := by decide +kernel
theorem d6_4 : decode prog_2_method_8_code 4 = .ok (.aload_n 1, 1) := by decide +kernel
theorem d6_5 : decode prog_2_method_8_code 5 = .ok (.getfield 12, 3) := by decide +kernel
theorem d6_8 : decode prog_2_method_8_code 8 = .ok (.invokevirtual 44, 3) := by decide +kernel
theorem d6_11 : decode prog_2_method_8_code 11 = .ok (.aload_n 1, 1) := by decide +kernel
theorem d6_12 : decode prog_2_method_8_code 12 = .ok (.getfield 18, 3) := by decide +kernel
theorem d6_15 : decode prog_2_method_8_code 15 = .ok (.iconst 0, 1) := by decide +kernel
theorem d6_16 : decode prog_2_method_8_code 16 = .ok (.aload_n 0, 1) := by decide +kernel
theorem d6_17 : decode prog_2_method_8_code 17 = .ok (.getfield 18, 3) := by decide +kernel
theorem d6_20 : decode prog_2_method_8_code 20 = .ok (.iconst 0, 1) := by decide +kernel
theorem d6_21 : decode prog_2_method_8_code 21 = .ok (.sipush 2560, 3) := by decide +kernel
theorem d6_24 : decode prog_2_method_8_code 24 = .ok (.invokestatic 48, 3) := by decide +kernel
theorem d6_27 : decode prog_2_method_8_code 27 = .ok (.aload_n 0, 1) := by decide +kernel
theorem d6_28 : decode prog_2_method_8_code 28 = .ok (.aload_n 1, 1) := by decide +kernel
theorem d6_29 : decode prog_2_method_8_code 29 = .ok (.getfield 22, 3) := by decide +kernel
theorem d6_32 : decode prog_2_method_8_code 32 = .ok (.putfield 22, 3) := by decide +kernel
theorem d6_35 : decode prog_2_method_8_code 35 = .ok (.aload_n 0, 1) := by decide +kernel
theorem d6_36 : decode prog_2_method_8_code 36 = .ok (.aload_n 1, 1) := by decide +kernel
theorem d6_37 : decode prog_2_method_8_code 37 = .ok (.getfield 26, 3) := by decide +kernel
theorem d6_40 : decode prog_2_method_8_code 40 = .ok (.putfield 26, 3) := by decide +kernel
theorem d6_43 : decode prog_2_method_8_code 43 = .ok (.aload_n 1, 1) := by decide +kernel
theorem d6_44 : decode prog_2_method_8_code 44 = .ok (.getfield 29, 3) := by decide +kernel
theorem d6_47 : decode prog_2_method_8_code 47 = .ok (.iconst 0, 1) := by decide +kernel
theorem d6_48 : decode prog_2_method_8_code 48 = .ok (.aload_n 0, 1) := by decide +kernel
theorem d6_49 : decode prog_2_method_8_code 49 = .ok (.getfield 29, 3) := by decide +kernel
theorem d6_52 : decode prog_2_method_8_code 52 = .ok (.iconst 0, 1) := by decide +kernel
theorem d6_53 : decode prog_2_method_8_code 53 = .ok (.bipush 8, 2) := by decide +kernel
theorem d6_55 : decode prog_2_method_8_code 55 = .ok (.invokestatic 48, 3) := by decide +kernel
theorem d6_58 : decode prog_2_method_8_code 58 = .ok (.aload_n 1, 1) := by decide +kernel
theorem d6_59 : decode prog_2_method_8_code 59 = .ok (.getfield 32, 3) := by decide +kernel
theorem d6_62 : decode prog_2_method_8_code 62 = .ok (.iconst 0, 1) := by decide +kernel
theorem d6_63 : decode prog_2_method_8_code 63 = .ok (.aload_n 0, 1) := by decide +kernel
theorem d6_64 : decode prog_2_method_8_code 64 = .ok (.getfield 32, 3) := by decide +kernel
theorem d6_67 : decode prog_2_method_8_code 67 = .ok (.iconst 0, 1) := by decide +kernel
theorem d6_68 : decode prog_2_method_8_code 68 = .ok (.bipush 8, 2) := by decide +kernel
theorem d6_70 : decode prog_2_method_8_code 70 = .ok (.invokestatic 48, 3) := by decide +kernel
theorem d6_73 : decode prog_2_method_8_code 73 = .ok (.aload_n 1, 1) := by decide +kernel
theorem d6_74 : decode prog_2_method_8_code 74 = .ok (.getfield 35, 3) := by decide +kernel
theorem d6_77 : decode prog_2_method_8_code 77 = .ok (.iconst 0, 1) := by decide +kernel
theorem d6_78 : decode prog_2_method_8_code 78 = .ok (.aload_n 0, 1) := by decide +kernel
theorem d6_79 : decode prog_2_method_8_code 79 = .ok (.getfield 35, 3) := by decide +kernel
theorem d6_82 : decode prog_2_method_8_code 82 = .ok (.iconst 0, 1) := by decide +kernel
theorem d6_83 : decode prog_2_method_8_code 83 = .ok (.bipush 8, 2) := by decide +kernel
theorem d6_85 : decode prog_2_method_8_code 85 = .ok (.invokestatic 48, 3) := by decide +kernel
theorem d6_88 : decode prog_2_method_8_code 88 = .ok (.aload_n 0, 1) := by decide +kernel
theorem d6_89 : decode prog_2_method_8_code 89 = .ok (.aload_n 1, 1) := by decide +kernel
theorem d6_90 : decode prog_2_method_8_code 90 = .ok (.getfield 38, 3) := by decide +kernel
theorem d6_93 : decode prog_2_method_8_code 93 = .ok (.putfield 38, 3) := by decide +kernel
theorem d6_96 : decode prog_2_method_8_code 96 = .ok (.aload_n 1, 1) := by decide +kernel
theorem d6_97 : decode prog_2_method_8_code 97 = .ok (.getfield 41, 3) := by decide +kernel
theorem d6_100 : decode prog_2_method_8_code 100 = .ok (.iconst 0, 1) := by decide +kernel
theorem d6_101 : decode prog_2_method_8_code 101 = .ok (.aload_n 0, 1) := by decide +kernel
theorem d6_102 : decode prog_2_method_8_code 102 = .ok (.getfield 41, 3) := by decide +kernel
theorem d6_105 : decode prog_2_method_8_code 105 = .ok (.iconst 0, 1) := by decide +kernel
theorem d6_106 : decode prog_2_method_8_code 106 = .ok (.iconst 3, 1) := by decide +kernel
theorem d6_107 : decode prog_2_method_8_code 107 = .ok (.invokestatic 48, 3) := by decide +kernel
theorem d6_110 : decode prog_2_method_8_code 110 = .ok (.return_, 1) := by decide +kernel
theorem b6 {X : mj_X} {d : Nat} {w : mj_W} {x0 : Nat} {x1 : Nat} : mj_call X d 6 [.ref x0, .ref x1] w = mj_exec X d 6 0 [some (.ref x0), some (.ref x1)] [] w := mw_ent mw_m6 (Nat.le_of_ble_eq_true rfl) rfl
theorem b6_0 {X : mj_X} {d : Nat} {s : mw_S} {k0 : Nat} {k1 : Nat} (h0 : mw_cl k0 = some 0) (h1 : mw_cl k1 = some 0) : mj_exec X (d + 1) 6 0 [some (.ref k0), some (.ref k1)] [] (mw_U s) = (mj_call X d 47 [.ref (k0 + 1), .ref (k1 + 1)] (mw_U s)).bind (mj_bk X (d + 1) 6 11 [some (.ref k0), some (.ref k1)] []) := (mj_q_aload_n mw_m6 d6_0 rfl (mw_neo h0)).trans ((mw_q_getr mw_m6 d6_1 mw_p0_12 h0 (mw_f0_0 h0)).trans ((mj_q_aload_n mw_m6 d6_4 rfl (mw_neo h1)).trans ((mw_q_getr mw_m6 d6_5 mw_p0_12 h1 (mw_f0_0 h1)).trans (mw_q_callv mw_m6 rfl d6_8 mw_p0_44 mw_m47 rfl rfl (Nat.le_of_ble_eq_true rfl) (Nat.le_of_ble_eq_true rfl) rfl (mw_rcv (mw_o0_0 h0)) rfl rfl))))
theorem b6_11 {X : mj_X} {d : Nat} {s : mw_S} {k0 : Nat} {k1 : Nat} (h0 : mw_cl k0 = some 0) (h1 : mw_cl k1 = some 0) : mj_exec X d 6 11 [some (.ref k0), some (.ref k1)] [] (mw_U s) = if mw_cp 2560 2560 (nI 0) (nI 0) (nI 2560) = true then if mw_cp 8 8 (nI 0) (nI 0) (nI 8) = true then if mw_cp 8 8 (nI 0) (nI 0) (nI 8) = true then if mw_cp 8 8 (nI 0) (nI 0) (nI 8) = true then if mw_cp 3 3 (nI 0) (nI 0) (nI 3) = true then some (.inl none, mw_U (mw_c (mw_p (mw_c (mw_c (mw_c (mw_p (mw_p (mw_c s (k1 + 3) (k0 + 3) ((nI 0)).toNatClampNeg ((nI 0)).toNatClampNeg ((nI 2560)).toNatClampNeg) k0 2 ((mw_c s (k1 + 3) (k0 + 3) ((nI 0)).toNatClampNeg ((nI 0)).toNatClampNeg ((nI 2560)).toNatClampNeg).1 k1 2)) k0 3 ((mw_p (mw_c s (k1 + 3) (k0 + 3) ((nI 0)).toNatClampNeg ((nI 0)).toNatClampNeg ((nI 2560)).toNatClampNeg) k0 2 ((mw_c s (k1 + 3) (k0 + 3) ((nI 0)).toNatClampNeg ((nI 0)).toNatClampNeg ((nI 2560)).toNatClampNeg).1 k1 2)).1 k1 3)) (k1 + 4) (k0 + 4) ((nI 0)).toNatClampNeg ((nI 0)).toNatClampNeg ((nI 8)).toNatClampNeg) (k1 + 5) (k0 + 5) ((nI 0)).toNatClampNeg ((nI 0)).toNatClampNeg ((nI 8)).toNatClampNeg) (k1 + 6) (k0 + 6) ((nI 0)).toNatClampNeg ((nI 0)).toNatClampNeg ((nI 8)).toNatClampNeg) k0 7 ((mw_c (mw_c (mw_c (mw_p (mw_p (mw_c s (k1 + 3) (k0 + 3) ((nI 0)).toNatClampNeg ((nI 0)).toNatClampNeg ((nI 2560)).toNatClampNeg) k0 2 ((mw_c s (k1 + 3) (k0 + 3) ((nI 0)).toNatClampNeg ((nI 0)).toNatClampNeg ((nI 2560)).toNatClampNeg).1 k1 2)) k0 3 ((mw_p (mw_c s (k1 + 3) (k0 + 3) ((nI 0)).toNatClampNeg ((nI 0)).toNatClampNeg ((nI 2560)).toNatClampNeg) k0 2 ((mw_c s (k1 + 3) (k0 + 3) ((nI 0)).toNatClampNeg ((nI 0)).toNatClampNeg ((nI 2560)).toNatClampNeg).1 k1 2)).1 k1 3)) (k1 + 4) (k0 + 4) ((nI 0)).toNatClampNeg ((nI 0)).toNatClampNeg ((nI 8)).toNatClampNeg) (k1 + 5) (k0 + 5) ((nI 0)).toNatClampNeg ((nI 0)).toNatClampNeg ((nI 8)).toNatClampNeg) (k1 + 6) (k0 + 6) ((nI 0)).toNatClampNeg ((nI 0)).toNatClampNeg ((nI 8)).toNatClampNeg).1 k1 7)) (k1 + 7) (k0 + 7) ((nI 0)).toNatClampNeg ((nI 0)).toNatClampNeg ((nI 3)).toNatClampNeg)) else none else none else none else none else none := (mj_q_aload_n mw_m6 d6_11 rfl (mw_neo h1)).trans ((mw_q_getr mw_m6 d6_12 mw_p0_18 h1 (mw_f0_1 h1)).trans ((mj_q_iconst mw_m6 d6_15 mw_k_iconst_0).trans ((mj_q_aload_n mw_m6 d6_16 rfl (mw_neo h0)).trans ((mw_q_getr mw_m6 d6_17 mw_p0_18 h0 (mw_f0_1 h0)).trans ((mj_q_iconst mw_m6 d6_20 mw_k_iconst_0).trans ((mj_q_sipush mw_m6 d6_21 mw_k_sipush_2560).trans ((mw_h_copy mw_m6 d6_24 mw_p0_48 (mw_a0_1 h1) (mw_a0_1 h0) (Nat.le_of_ble_eq_true rfl)).trans (mw_g ((mj_q_aload_n mw_m6 d6_27 rfl (mw_neo h0)).trans ((mj_q_aload_n mw_m6 d6_28 rfl (mw_neo h1)).trans ((mw_q_geti mw_m6 d6_29 mw_p0_22 h1 (mw_f0_2 h1)).trans ((mw_q_puti mw_m6 d6_32 mw_p0_22 h0 (mw_f0_2 h0) (by decide) rfl (.inl rfl)).trans ((mj_q_aload_n mw_m6 d6_35 rfl (mw_neo h0)).trans ((mj_q_aload_n mw_m6 d6_36 rfl (mw_neo h1)).trans ((mw_q_geti mw_m6 d6_37 mw_p0_26 h1 (mw_f0_3 h1)).trans ((mw_q_puti mw_m6 d6_40 mw_p0_26 h0 (mw_f0_3 h0) (by decide) rfl (.inl rfl)).trans ((mj_q_aload_n mw_m6 d6_43 rfl (mw_neo h1)).trans ((mw_q_getr mw_m6 d6_44 mw_p0_29 h1 (mw_f0_4 h1)).trans ((mj_q_iconst mw_m6 d6_47 mw_k_iconst_0).trans ((mj_q_aload_n mw_m6 d6_48 rfl (mw_neo h0)).trans ((mw_q_getr mw_m6 d6_49 mw_p0_29 h0 (mw_f0_4 h0)).trans ((mj_q_iconst mw_m6 d6_52 mw_k_iconst_0).trans ((mj_q_bipush mw_m6 d6_53 mw_k_bipush_8).trans ((mw_h_copy mw_m6 d6_55 mw_p0_48 (mw_a0_4 h1) (mw_a0_4 h0) (Nat.le_of_ble_eq_true rfl)).trans (mw_g ((mj_q_aload_n mw_m6 d6_58 rfl (mw_neo h1)).trans ((mw_q_getr mw_m6 d6_59 mw_p0_32 h1 (mw_f0_5 h1)).trans ((mj_q_iconst mw_m6 d6_62 mw_k_iconst_0).trans ((mj_q_aload_n mw_m6 d6_63 rfl (mw_neo h0)).trans ((mw_q_getr mw_m6 d6_64 mw_p0_32 h0 (mw_f0_5 h0)).trans ((mj_q_iconst mw_m6 d6_67 mw_k_iconst_0).trans ((mj_q_bipush mw_m6 d6_68 mw_k_bipush_8).trans ((mw_h_copy mw_m6 d6_70 mw_p0_48 (mw_a0_5 h1) (mw_a0_5 h0) (Nat.le_of_ble_eq_true rfl)).trans (mw_g ((mj_q_aload_n mw_m6 d6_73 rfl (mw_neo h1)).trans ((mw_q_getr mw_m6 d6_74 mw_p0_35 h1 (mw_f0_6 h1)).trans ((mj_q_iconst mw_m6 d6_77 mw_k_iconst_0).trans ((mj_q_aload_n mw_m6 d6_78 rfl (mw_neo h0)).trans ((mw_q_getr mw_m6 d6_79 mw_p0_35 h0 (mw_f0_6 h0)).trans ((mj_q_iconst mw_m6 d6_82 mw_k_iconst_0).trans ((mj_q_bipush mw_m6 d6_83 mw_k_bipush_8).trans ((mw_h_copy mw_m6 d6_85 mw_p0_48 (mw_a0_6 h1) (mw_a0_6 h0) (Nat.le_of_ble_eq_true rfl)).trans (mw_g ((mj_q_aload_n mw_m6 d6_88 rfl (mw_neo h0)).trans ((mj_q_aload_n mw_m6 d6_89 rfl (mw_neo h1)).trans ((mw_q_geti mw_m6 d6_90 mw_p0_38 h1 (mw_f0_7 h1)).trans ((mw_q_puti mw_m6 d6_93 mw_p0_38 h0 (mw_f0_7 h0) (by decide) rfl (.inl rfl)).trans ((mj_q_aload_n mw_m6 d6_96 rfl (mw_neo h1)).trans ((mw_q_getr mw_m6 d6_97 mw_p0_41 h1 (mw_f0_8 h1)).trans ((mj_q_iconst mw_m6 d6_100 mw_k_iconst_0).trans ((mj_q_aload_n mw_m6 d6_101 rfl (mw_neo h0)).trans ((mw_q_getr mw_m6 d6_102 mw_p0_41 h0 (mw_f0_8 h0)).trans ((mj_q_iconst mw_m6 d6_105 mw_k_iconst_0).trans ((mj_q_iconst mw_m6 d6_106 mw_k_iconst_3).trans ((mw_h_copy mw_m6 d6_107 mw_p0_48 (mw_a0_8 h1) (mw_a0_8 h0) (Nat.le_of_ble_eq_true rfl)).trans (mw_g (mj_q_vret mw_m6 d6_110 rfl)))))))))))))))))))))))))))))))))))))))))))))))))))))))))
/-- WivesQuarrels$Books.beginAnew -/
theorem d7_0 : decode prog_2_method_7_code 0 = .ok (.aload_n 0, 1) := by decide +kernel
theorem d7_1 : decode prog_2_method_7_code 1 = .ok (.getfield 12, 3) := by decide +kernel
theorem d7_4 : decode prog_2_method_7_code 4 = .ok (.aload_n 1, 1) := by decide +kernel
theorem d7_5 : decode prog_2_method_7_code 5 = .ok (.invokevirtual 44, 3) := by decide +kernel
theorem d7_8 : decode prog_2_method_7_code 8 = .ok (.aload_n 0, 1) := by decide +kernel
theorem d7_9 : decode prog_2_method_7_code 9 = .ok (.iconst 0, 1) := by decide +kernel
theorem d7_10 : decode prog_2_method_7_code 10 = .ok (.putfield 22, 3) := by decide +kernel
theorem d7_13 : decode prog_2_method_7_code 13 = .ok (.aload_n 0, 1) := by decide +kernel
theorem d7_14 : decode prog_2_method_7_code 14 = .ok (.iconst 0, 1) := by decide +kernel
theorem d7_15 : decode prog_2_method_7_code 15 = .ok (.putfield 26, 3) := by decide +kernel
theorem d7_18 : decode prog_2_method_7_code 18 = .ok (.aload_n 0, 1) := by decide +kernel
theorem d7_19 : decode prog_2_method_7_code 19 = .ok (.iconst 0, 1) := by decide +kernel
theorem d7_20 : decode prog_2_method_7_code 20 = .ok (.putfield 38, 3) := by decide +kernel
theorem d7_23 : decode prog_2_method_7_code 23 = .ok (.return_, 1) := by decide +kernel
theorem b7 {X : mj_X} {d : Nat} {w : mj_W} {x0 : Nat} {x1 : Nat} : mj_call X d 7 [.ref x0, .ref x1] w = mj_exec X d 7 0 [some (.ref x0), some (.ref x1)] [] w := mw_ent mw_m7 (Nat.le_of_ble_eq_true rfl) rfl
theorem b7_0 {X : mj_X} {d : Nat} {s : mw_S} {k0 : Nat} {k1 : Nat} (h0 : mw_cl k0 = some 0) (h1 : mw_cl k1 = some 3) : mj_exec X (d + 1) 7 0 [some (.ref k0), some (.ref k1)] [] (mw_U s) = (mj_call X d 47 [.ref (k0 + 1), .ref k1] (mw_U s)).bind (mj_bk X (d + 1) 7 8 [some (.ref k0), some (.ref k1)] []) := (mj_q_aload_n mw_m7 d7_0 rfl (mw_neo h0)).trans ((mw_q_getr mw_m7 d7_1 mw_p0_12 h0 (mw_f0_0 h0)).trans ((mj_q_aload_n mw_m7 d7_4 rfl (mw_neo h1)).trans (mw_q_callv mw_m7 rfl d7_5 mw_p0_44 mw_m47 rfl rfl (Nat.le_of_ble_eq_true rfl) (Nat.le_of_ble_eq_true rfl) rfl (mw_rcv (mw_o0_0 h0)) rfl rfl)))
theorem b7_8 {X : mj_X} {d : Nat} {s : mw_S} {k0 : Nat} {k1 : Nat} (h0 : mw_cl k0 = some 0) (h1 : mw_cl k1 = some 3) : mj_exec X d 7 8 [some (.ref k0), some (.ref k1)] [] (mw_U s) = some (.inl none, mw_U (mw_p (mw_p (mw_p s k0 2 (nI 0)) k0 3 (nI 0)) k0 7 (nI 0))) := (mj_q_aload_n mw_m7 d7_8 rfl (mw_neo h0)).trans ((mj_q_iconst mw_m7 d7_9 mw_k_iconst_0).trans ((mw_q_puti mw_m7 d7_10 mw_p0_22 h0 (mw_f0_2 h0) (by decide) rfl (.inl rfl)).trans ((mj_q_aload_n mw_m7 d7_13 rfl (mw_neo h0)).trans ((mj_q_iconst mw_m7 d7_14 mw_k_iconst_0).trans ((mw_q_puti mw_m7 d7_15 mw_p0_26 h0 (mw_f0_3 h0) (by decide) rfl (.inl rfl)).trans ((mj_q_aload_n mw_m7 d7_18 rfl (mw_neo h0)).trans ((mj_q_iconst mw_m7 d7_19 mw_k_iconst_0).trans ((mw_q_puti mw_m7 d7_20 mw_p0_38 h0 (mw_f0_7 h0) (by decide) rfl (.inl rfl)).trans (mj_q_vret mw_m7 d7_23 rfl)))))))))
/-- WivesQuarrels$Books.acts -/
theorem d8_0 : decode prog_2_method_3_code 0 = .ok (.aload_n 0, 1) := by decide +kernel
theorem d8_1 : decode prog_2_method_3_code 1 = .ok (.getfield 26, 3) := by decide +kernel
theorem d8_4 : decode prog_2_method_3_code 4 = .ok (.ireturn, 1) := by decide +kernel
theorem b8 {X : mj_X} {d : Nat} {w : mj_W} {x0 : Nat} : mj_call X d 8 [.ref x0] w = mj_exec X d 8 0 [some (.ref x0)] [] w := mw_ent mw_m8 (Nat.le_of_ble_eq_true rfl) rfl
theorem b8_0 {X : mj_X} {d : Nat} {s : mw_S} {k0 : Nat} (h0 : mw_cl k0 = some 0) : mj_exec X d 8 0 [some (.ref k0)] [] (mw_U s) = some (.inl (some (.int (s.1 k0 3))), mw_U s) := (mj_q_aload_n mw_m8 d8_0 rfl (mw_neo h0)).trans ((mw_q_geti mw_m8 d8_1 mw_p0_26 h0 (mw_f0_3 h0)).trans (mj_q_iret mw_m8 d8_4 rfl))
/-- WivesQuarrels$Books.sights -/
theorem d9_0 : decode prog_2_method_4_code 0 = .ok (.aload_n 0, 1) := by decide +kernel
theorem d9_1 : decode prog_2_method_4_code 1 = .ok (.getfield 38, 3) := by decide +kernel
theorem d9_4 : decode prog_2_method_4_code 4 = .ok (.ireturn, 1) := by decide +kernel
theorem b9 {X : mj_X} {d : Nat} {w : mj_W} {x0 : Nat} : mj_call X d 9 [.ref x0] w = mj_exec X d 9 0 [some (.ref x0)] [] w := mw_ent mw_m9 (Nat.le_of_ble_eq_true rfl) rfl
theorem b9_0 {X : mj_X} {d : Nat} {s : mw_S} {k0 : Nat} (h0 : mw_cl k0 = some 0) : mj_exec X d 9 0 [some (.ref k0)] [] (mw_U s) = some (.inl (some (.int (s.1 k0 7))), mw_U s) := (mj_q_aload_n mw_m9 d9_0 rfl (mw_neo h0)).trans ((mw_q_geti mw_m9 d9_1 mw_p0_38 h0 (mw_f0_7 h0)).trans (mj_q_iret mw_m9 d9_4 rfl))
/-- WivesQuarrels$Books.refusals -/
theorem d10_0 : decode prog_2_method_5_code 0 = .ok (.iload_n 1, 1) := by decide +kernel
theorem d10_1 : decode prog_2_method_5_code 1 = .ok (.ifCond .lt 8, 3) := by decide +kernel
theorem d10_4 : decode prog_2_method_5_code 4 = .ok (.iload_n 1, 1) := by decide +kernel
theorem d10_5 : decode prog_2_method_5_code 5 = .ok (.iconst 2, 1) := by decide +kernel
theorem d10_6 : decode prog_2_method_5_code 6 = .ok (.if_icmp .le 7, 3) := by decide +kernel
theorem d10_9 : decode prog_2_method_5_code 9 = .ok (.iconst 0, 1) := by decide +kernel
theorem d10_10 : decode prog_2_method_5_code 10 = .ok (.goto 9, 3) := by decide +kernel
theorem d10_13 : decode prog_2_method_5_code 13 = .ok (.aload_n 0, 1) := by decide +kernel
theorem d10_14 : decode prog_2_method_5_code 14 = .ok (.getfield 41, 3) := by decide +kernel
theorem d10_17 : decode prog_2_method_5_code 17 = .ok (.iload_n 1, 1) := by decide +kernel
theorem d10_18 : decode prog_2_method_5_code 18 = .ok (.iaload, 1) := by decide +kernel
theorem d10_19 : decode prog_2_method_5_code 19 = .ok (.ireturn, 1) := by decide +kernel
theorem b10 {X : mj_X} {d : Nat} {w : mj_W} {x0 : Nat} {x1 : Int32} : mj_call X d 10 [.ref x0, .int x1] w = mj_exec X d 10 0 [some (.ref x0), some (.int x1)] [] w := mw_ent mw_m10 (Nat.le_of_ble_eq_true rfl) rfl
theorem b10_0 {X : mj_X} {d : Nat} {s : mw_S} {k0 : Nat} {x1 : Int32} (h0 : mw_cl k0 = some 0) : mj_exec X d 10 0 [some (.ref k0), some (.int x1)] [] (mw_U s) = if x1 < 0 then mj_exec X d 10 9 [some (.ref k0), some (.int x1)] [] (mw_U s) else mj_exec X d 10 4 [some (.ref k0), some (.int x1)] [] (mw_U s) := (mj_q_iload_n mw_m10 d10_0 rfl).trans (mj_q_if_lt mw_m10 d10_1 rfl)
theorem b10_4 {X : mj_X} {d : Nat} {s : mw_S} {k0 : Nat} {x1 : Int32} (h0 : mw_cl k0 = some 0) : mj_exec X d 10 4 [some (.ref k0), some (.int x1)] [] (mw_U s) = if x1 ≤ (nI 2) then mj_exec X d 10 13 [some (.ref k0), some (.int x1)] [] (mw_U s) else mj_exec X d 10 9 [some (.ref k0), some (.int x1)] [] (mw_U s) := (mj_q_iload_n mw_m10 d10_4 rfl).trans ((mj_q_iconst mw_m10 d10_5 mw_k_iconst_2).trans (mj_q_icmp_le mw_m10 d10_6 rfl))
theorem b10_9 {X : mj_X} {d : Nat} {s : mw_S} {k0 : Nat} {x1 : Int32} (h0 : mw_cl k0 = some 0) : mj_exec X d 10 9 [some (.ref k0), some (.int x1)] [] (mw_U s) = mj_exec X d 10 19 [some (.ref k0), some (.int x1)] [.int (nI 0)] (mw_U s) := (mj_q_iconst mw_m10 d10_9 mw_k_iconst_0).trans (mj_q_goto mw_m10 d10_10 rfl)
theorem b10_13 {X : mj_X} {d : Nat} {s : mw_S} {k0 : Nat} {x1 : Int32} (h0 : mw_cl k0 = some 0) : mj_exec X d 10 13 [some (.ref k0), some (.int x1)] [] (mw_U s) = if mw_in 3 x1 = true then mj_exec X d 10 19 [some (.ref k0), some (.int x1)] [.int (s.1 (k0 + 7) (x1).toNatClampNeg)] (mw_U s) else none := (mj_q_aload_n mw_m10 d10_13 rfl (mw_neo h0)).trans ((mw_q_getr mw_m10 d10_14 mw_p0_41 h0 (mw_f0_8 h0)).trans ((mj_q_iload_n mw_m10 d10_17 rfl).trans ((mw_h_iald mw_m10 d10_18 (mw_a0_8 h0)).trans (mw_g (rfl)))))
theorem b10_19 {X : mj_X} {d : Nat} {s : mw_S} {k0 : Nat} {x1 : Int32} {xs0 : Int32} (h0 : mw_cl k0 = some 0) : mj_exec X d 10 19 [some (.ref k0), some (.int x1)] [.int xs0] (mw_U s) = some (.inl (some (.int xs0)), mw_U s) := mj_q_iret mw_m10 d10_19 rfl
/-- WivesQuarrels$Books.addSight -/
theorem d11_0 : decode prog_2_method_11_code 0 = .ok (.aload_n 0, 1) := by decide +kernel
theorem d11_1 : decode prog_2_method_11_code 1 = .ok (.getfield 38, 3) := by decide +kernel
theorem d11_4 : decode prog_2_method_11_code 4 = .ok (.bipush 8, 2) := by decide +kernel
theorem d11_6 : decode prog_2_method_11_code 6 = .ok (.if_icmp .ge 43, 3) := by decide +kernel
theorem d11_9 : decode prog_2_method_11_code 9 = .ok (.aload_n 0, 1) := by decide +kernel
theorem d11_10 : decode prog_2_method_11_code 10 = .ok (.getfield 29, 3) := by decide +kernel
theorem d11_13 : decode prog_2_method_11_code 13 = .ok (.aload_n 0, 1) := by decide +kernel
theorem d11_14 : decode prog_2_method_11_code 14 = .ok (.getfield 38, 3) := by decide +kernel
theorem d11_17 : decode prog_2_method_11_code 17 = .ok (.iload_n 1, 1) := by decide +kernel
theorem d11_18 : decode prog_2_method_11_code 18 = .ok (.iastore, 1) := by decide +kernel
theorem d11_19 : decode prog_2_method_11_code 19 = .ok (.aload_n 0, 1) := by decide +kernel
theorem d11_20 : decode prog_2_method_11_code 20 = .ok (.getfield 32, 3) := by decide +kernel
theorem d11_23 : decode prog_2_method_11_code 23 = .ok (.aload_n 0, 1) := by decide +kernel
theorem d11_24 : decode prog_2_method_11_code 24 = .ok (.getfield 38, 3) := by decide +kernel
theorem d11_27 : decode prog_2_method_11_code 27 = .ok (.iload_n 2, 1) := by decide +kernel
theorem d11_28 : decode prog_2_method_11_code 28 = .ok (.iastore, 1) := by decide +kernel
theorem d11_29 : decode prog_2_method_11_code 29 = .ok (.aload_n 0, 1) := by decide +kernel
theorem d11_30 : decode prog_2_method_11_code 30 = .ok (.getfield 35, 3) := by decide +kernel
theorem d11_33 : decode prog_2_method_11_code 33 = .ok (.aload_n 0, 1) := by decide +kernel
theorem d11_34 : decode prog_2_method_11_code 34 = .ok (.getfield 38, 3) := by decide +kernel
theorem d11_37 : decode prog_2_method_11_code 37 = .ok (.iload_n 3, 1) := by decide +kernel
theorem d11_38 : decode prog_2_method_11_code 38 = .ok (.iastore, 1) := by decide +kernel
theorem d11_39 : decode prog_2_method_11_code 39 = .ok (.aload_n 0, 1) := by decide +kernel
theorem d11_40 : decode prog_2_method_11_code 40 = .ok (.dup, 1) := by decide +kernel
theorem d11_41 : decode prog_2_method_11_code 41 = .ok (.getfield 38, 3) := by decide +kernel
theorem d11_44 : decode prog_2_method_11_code 44 = .ok (.iconst 1, 1) := by decide +kernel
theorem d11_45 : decode prog_2_method_11_code 45 = .ok (.iadd, 1) := by decide +kernel
theorem d11_46 : decode prog_2_method_11_code 46 = .ok (.putfield 38, 3) := by decide +kernel
theorem d11_49 : decode prog_2_method_11_code 49 = .ok (.aload_n 0, 1) := by decide +kernel
theorem d11_50 : decode prog_2_method_11_code 50 = .ok (.getfield 38, 3) := by decide +kernel
theorem d11_53 : decode prog_2_method_11_code 53 = .ok (.ireturn, 1) := by decide +kernel
theorem b11 {X : mj_X} {d : Nat} {w : mj_W} {x0 : Nat} {x1 : Int32} {x2 : Int32} {x3 : Int32} : mj_call X d 11 [.ref x0, .int x1, .int x2, .int x3] w = mj_exec X d 11 0 [some (.ref x0), some (.int x1), some (.int x2), some (.int x3)] [] w := mw_ent mw_m11 (Nat.le_of_ble_eq_true rfl) rfl
theorem b11_0 {X : mj_X} {d : Nat} {s : mw_S} {k0 : Nat} {x1 : Int32} {x2 : Int32} {x3 : Int32} (h0 : mw_cl k0 = some 0) : mj_exec X d 11 0 [some (.ref k0), some (.int x1), some (.int x2), some (.int x3)] [] (mw_U s) = if (nI 8) ≤ (s.1 k0 7) then mj_exec X d 11 49 [some (.ref k0), some (.int x1), some (.int x2), some (.int x3)] [] (mw_U s) else mj_exec X d 11 9 [some (.ref k0), some (.int x1), some (.int x2), some (.int x3)] [] (mw_U s) := (mj_q_aload_n mw_m11 d11_0 rfl (mw_neo h0)).trans ((mw_q_geti mw_m11 d11_1 mw_p0_38 h0 (mw_f0_7 h0)).trans ((mj_q_bipush mw_m11 d11_4 mw_k_bipush_8).trans (mj_q_icmp_ge mw_m11 d11_6 rfl)))
theorem b11_9 {X : mj_X} {d : Nat} {s : mw_S} {k0 : Nat} {x1 : Int32} {x2 : Int32} {x3 : Int32} (h0 : mw_cl k0 = some 0) : mj_exec X d 11 9 [some (.ref k0), some (.int x1), some (.int x2), some (.int x3)] [] (mw_U s) = if mw_in 8 (s.1 k0 7) = true then if mw_in 8 ((mw_p s (k0 + 4) ((s.1 k0 7)).toNatClampNeg x1).1 k0 7) = true then if mw_in 8 ((mw_p (mw_p s (k0 + 4) ((s.1 k0 7)).toNatClampNeg x1) (k0 + 5) (((mw_p s (k0 + 4) ((s.1 k0 7)).toNatClampNeg x1).1 k0 7)).toNatClampNeg x2).1 k0 7) = true then mj_exec X d 11 49 [some (.ref k0), some (.int x1), some (.int x2), some (.int x3)] [] (mw_U (mw_p (mw_p (mw_p (mw_p s (k0 + 4) ((s.1 k0 7)).toNatClampNeg x1) (k0 + 5) (((mw_p s (k0 + 4) ((s.1 k0 7)).toNatClampNeg x1).1 k0 7)).toNatClampNeg x2) (k0 + 6) (((mw_p (mw_p s (k0 + 4) ((s.1 k0 7)).toNatClampNeg x1) (k0 + 5) (((mw_p s (k0 + 4) ((s.1 k0 7)).toNatClampNeg x1).1 k0 7)).toNatClampNeg x2).1 k0 7)).toNatClampNeg x3) k0 7 (((mw_p (mw_p (mw_p s (k0 + 4) ((s.1 k0 7)).toNatClampNeg x1) (k0 + 5) (((mw_p s (k0 + 4) ((s.1 k0 7)).toNatClampNeg x1).1 k0 7)).toNatClampNeg x2) (k0 + 6) (((mw_p (mw_p s (k0 + 4) ((s.1 k0 7)).toNatClampNeg x1) (k0 + 5) (((mw_p s (k0 + 4) ((s.1 k0 7)).toNatClampNeg x1).1 k0 7)).toNatClampNeg x2).1 k0 7)).toNatClampNeg x3).1 k0 7) + (nI 1)))) else none else none else none := (mj_q_aload_n mw_m11 d11_9 rfl (mw_neo h0)).trans ((mw_q_getr mw_m11 d11_10 mw_p0_29 h0 (mw_f0_4 h0)).trans ((mj_q_aload_n mw_m11 d11_13 rfl (mw_neo h0)).trans ((mw_q_geti mw_m11 d11_14 mw_p0_38 h0 (mw_f0_7 h0)).trans ((mj_q_iload_n mw_m11 d11_17 rfl).trans ((mw_h_iast mw_m11 d11_18 (mw_a0_4 h0)).trans (mw_g ((mj_q_aload_n mw_m11 d11_19 rfl (mw_neo h0)).trans ((mw_q_getr mw_m11 d11_20 mw_p0_32 h0 (mw_f0_5 h0)).trans ((mj_q_aload_n mw_m11 d11_23 rfl (mw_neo h0)).trans ((mw_q_geti mw_m11 d11_24 mw_p0_38 h0 (mw_f0_7 h0)).trans ((mj_q_iload_n mw_m11 d11_27 rfl).trans ((mw_h_iast mw_m11 d11_28 (mw_a0_5 h0)).trans (mw_g ((mj_q_aload_n mw_m11 d11_29 rfl (mw_neo h0)).trans ((mw_q_getr mw_m11 d11_30 mw_p0_35 h0 (mw_f0_6 h0)).trans ((mj_q_aload_n mw_m11 d11_33 rfl (mw_neo h0)).trans ((mw_q_geti mw_m11 d11_34 mw_p0_38 h0 (mw_f0_7 h0)).trans ((mj_q_iload_n mw_m11 d11_37 rfl).trans ((mw_h_iast mw_m11 d11_38 (mw_a0_6 h0)).trans (mw_g ((mj_q_aload_n mw_m11 d11_39 rfl (mw_neo h0)).trans ((mj_q_dup mw_m11 d11_40 rfl).trans ((mw_q_geti mw_m11 d11_41 mw_p0_38 h0 (mw_f0_7 h0)).trans ((mj_q_iconst mw_m11 d11_44 mw_k_iconst_1).trans ((mj_q_iadd mw_m11 d11_45).trans (mw_q_puti mw_m11 d11_46 mw_p0_38 h0 (mw_f0_7 h0) (by decide) rfl (.inl rfl)))))))))))))))))))))))))))
theorem b11_49 {X : mj_X} {d : Nat} {s : mw_S} {k0 : Nat} {x1 : Int32} {x2 : Int32} {x3 : Int32} (h0 : mw_cl k0 = some 0) : mj_exec X d 11 49 [some (.ref k0), some (.int x1), some (.int x2), some (.int x3)] [] (mw_U s) = some (.inl (some (.int (s.1 k0 7))), mw_U s) := (mj_q_aload_n mw_m11 d11_49 rfl (mw_neo h0)).trans ((mw_q_geti mw_m11 d11_50 mw_p0_38 h0 (mw_f0_7 h0)).trans (mj_q_iret mw_m11 d11_53 rfl))
/-- WivesQuarrels$Books.lastSeenWeek -/
theorem d12_0 : decode prog_2_method_13_code 0 = .ok (.iconst 0, 1) := by decide +kernel
theorem d12_1 : decode prog_2_method_13_code 1 = .ok (.istore_n 1, 1) := by decide +kernel
theorem d12_2 : decode prog_2_method_13_code 2 = .ok (.iconst 0, 1) := by decide +kernel
theorem d12_3 : decode prog_2_method_13_code 3 = .ok (.istore_n 2, 1) := by decide +kernel
theorem d12_4 : decode prog_2_method_13_code 4 = .ok (.iload_n 2, 1) := by decide +kernel
theorem d12_5 : decode prog_2_method_13_code 5 = .ok (.aload_n 0, 1) := by decide +kernel
theorem d12_6 : decode prog_2_method_13_code 6 = .ok (.getfield 38, 3) := by decide +kernel
theorem d12_9 : decode prog_2_method_13_code 9 = .ok (.if_icmp .ge 26, 3) := by decide +kernel
theorem d12_12 : decode prog_2_method_13_code 12 = .ok (.iload_n 2, 1) := by decide +kernel
theorem d12_13 : decode prog_2_method_13_code 13 = .ok (.bipush 8, 2) := by decide +kernel
theorem d12_15 : decode prog_2_method_13_code 15 = .ok (.if_icmp .ge 20, 3) := by decide +kernel
theorem d12_18 : decode prog_2_method_13_code 18 = .ok (.iload_n 1, 1) := by decide +kernel
theorem d12_19 : decode prog_2_method_13_code 19 = .ok (.aload_n 0, 1) := by decide +kernel
theorem d12_20 : decode prog_2_method_13_code 20 = .ok (.getfield 32, 3) := by decide +kernel
theorem d12_23 : decode prog_2_method_13_code 23 = .ok (.iload_n 2, 1) := by decide +kernel
theorem d12_24 : decode prog_2_method_13_code 24 = .ok (.iaload, 1) := by decide +kernel
theorem d12_25 : decode prog_2_method_13_code 25 = .ok (.invokestatic 61, 3) := by decide +kernel
theorem d12_28 : decode prog_2_method_13_code 28 = .ok (.istore_n 1, 1) := by decide +kernel
theorem d12_29 : decode prog_2_method_13_code 29 = .ok (.iinc 2 1, 3) := by decide +kernel
theorem d12_32 : decode prog_2_method_13_code 32 = .ok (.goto (-28), 3) := by decide +kernel
theorem d12_35 : decode prog_2_method_13_code 35 = .ok (.iload_n 1, 1) := by decide +kernel
theorem d12_36 : decode prog_2_method_13_code 36 = .ok (.ireturn, 1) := by decide +kernel
theorem b12 {X : mj_X} {d : Nat} {w : mj_W} {x0 : Nat} : mj_call X d 12 [.ref x0] w = mj_exec X d 12 0 [some (.ref x0), none, none] [] w := mw_ent mw_m12 (Nat.le_of_ble_eq_true rfl) rfl
theorem b12_0 {X : mj_X} {d : Nat} {s : mw_S} {k0 : Nat} {l1 : Option Value} {l2 : Option Value} (h0 : mw_cl k0 = some 0) : mj_exec X d 12 0 [some (.ref k0), l1, l2] [] (mw_U s) = mj_exec X d 12 4 [some (.ref k0), some (.int (nI 0)), some (.int (nI 0))] [] (mw_U s) := (mj_q_iconst mw_m12 d12_0 mw_k_iconst_0).trans ((mj_q_istore_n mw_m12 d12_1 (Nat.le_of_ble_eq_true rfl) rfl rfl).trans ((mj_q_iconst mw_m12 d12_2 mw_k_iconst_0).trans (mj_q_istore_n mw_m12 d12_3 (Nat.le_of_ble_eq_true rfl) rfl rfl)))
theorem b12_4 {X : mj_X} {d : Nat} {s : mw_S} {k0 : Nat} {x1 : Int32} {x2 : Int32} (h0 : mw_cl k0 = some 0) : mj_exec X d 12 4 [some (.ref k0), some (.int x1), some (.int x2)] [] (mw_U s) = if (s.1 k0 7) ≤ x2 then mj_exec X d 12 35 [some (.ref k0), some (.int x1), some (.int x2)] [] (mw_U s) else mj_exec X d 12 12 [some (.ref k0), some (.int x1), some (.int x2)] [] (mw_U s) := (mj_q_iload_n mw_m12 d12_4 rfl).trans ((mj_q_aload_n mw_m12 d12_5 rfl (mw_neo h0)).trans ((mw_q_geti mw_m12 d12_6 mw_p0_38 h0 (mw_f0_7 h0)).trans (mj_q_icmp_ge mw_m12 d12_9 rfl)))
theorem b12_12 {X : mj_X} {d : Nat} {s : mw_S} {k0 : Nat} {x1 : Int32} {x2 : Int32} (h0 : mw_cl k0 = some 0) : mj_exec X d 12 12 [some (.ref k0), some (.int x1), some (.int x2)] [] (mw_U s) = if (nI 8) ≤ x2 then mj_exec X d 12 35 [some (.ref k0), some (.int x1), some (.int x2)] [] (mw_U s) else mj_exec X d 12 18 [some (.ref k0), some (.int x1), some (.int x2)] [] (mw_U s) := (mj_q_iload_n mw_m12 d12_12 rfl).trans ((mj_q_bipush mw_m12 d12_13 mw_k_bipush_8).trans (mj_q_icmp_ge mw_m12 d12_15 rfl))
theorem b12_18 {X : mj_X} {d : Nat} {s : mw_S} {k0 : Nat} {x1 : Int32} {x2 : Int32} (h0 : mw_cl k0 = some 0) : mj_exec X d 12 18 [some (.ref k0), some (.int x1), some (.int x2)] [] (mw_U s) = if mw_in 8 x2 = true then mj_exec X d 12 4 [some (.ref k0), some (.int (mw_max x1 (s.1 (k0 + 5) (x2).toNatClampNeg))), some (.int (x2 + (nI 1)))] [] (mw_U s) else none := (mj_q_iload_n mw_m12 d12_18 rfl).trans ((mj_q_aload_n mw_m12 d12_19 rfl (mw_neo h0)).trans ((mw_q_getr mw_m12 d12_20 mw_p0_32 h0 (mw_f0_5 h0)).trans ((mj_q_iload_n mw_m12 d12_23 rfl).trans ((mw_h_iald mw_m12 d12_24 (mw_a0_5 h0)).trans (mw_g ((mj_q_max mw_m12 d12_25 mw_p0_61 (Nat.le_of_ble_eq_true rfl)).trans ((mj_q_istore_n mw_m12 d12_28 (Nat.le_of_ble_eq_true rfl) rfl rfl).trans ((mj_q_iinc mw_m12 d12_29 rfl (Nat.le_of_ble_eq_true rfl) rfl mw_k_iconst_1 rfl).trans (mj_q_goto mw_m12 d12_32 rfl)))))))))
theorem b12_35 {X : mj_X} {d : Nat} {s : mw_S} {k0 : Nat} {x1 : Int32} {x2 : Int32} (h0 : mw_cl k0 = some 0) : mj_exec X d 12 35 [some (.ref k0), some (.int x1), some (.int x2)] [] (mw_U s) = some (.inl (some (.int x1)), mw_U s) := (mj_q_iload_n mw_m12 d12_35 rfl).trans (mj_q_iret mw_m12 d12_36 rfl)
/-- WivesQuarrels$Books.fits -/
theorem d13_0 : decode prog_2_method_14_code 0 = .ok (.iconst 0, 1) := by decide +kernel
theorem d13_1 : decode prog_2_method_14_code 1 = .ok (.istore_n 3, 1) := by decide +kernel
theorem d13_2 : decode prog_2_method_14_code 2 = .ok (.iload_n 3, 1) := by decide +kernel
theorem d13_3 : decode prog_2_method_14_code 3 = .ok (.aload_n 0, 1) := by decide +kernel
theorem d13_4 : decode prog_2_method_14_code 4 = .ok (.getfield 38, 3) := by decide +kernel
theorem d13_7 : decode prog_2_method_14_code 7 = .ok (.if_icmp .ge 46, 3) := by decide +kernel
theorem d13_10 : decode prog_2_method_14_code 10 = .ok (.iload_n 3, 1) := by decide +kernel
theorem d13_11 : decode prog_2_method_14_code 11 = .ok (.bipush 8, 2) := by decide +kernel
theorem d13_13 : decode prog_2_method_14_code 13 = .ok (.if_icmp .ge 40, 3) := by decide +kernel
theorem d13_16 : decode prog_2_method_14_code 16 = .ok (.aload_n 0, 1) := by decide +kernel
theorem d13_17 : decode prog_2_method_14_code 17 = .ok (.getfield 32, 3) := by decide +kernel
theorem d13_20 : decode prog_2_method_14_code 20 = .ok (.iload_n 3, 1) := by decide +kernel
theorem d13_21 : decode prog_2_method_14_code 21 = .ok (.iaload, 1) := by decide +kernel
theorem d13_22 : decode prog_2_method_14_code 22 = .ok (.iload_n 2, 1) := by decide +kernel
theorem d13_23 : decode prog_2_method_14_code 23 = .ok (.if_icmp .ne 24, 3) := by decide +kernel
theorem d13_26 : decode prog_2_method_14_code 26 = .ok (.aload_n 1, 1) := by decide +kernel
theorem d13_27 : decode prog_2_method_14_code 27 = .ok (.aload_n 0, 1) := by decide +kernel
theorem d13_28 : decode prog_2_method_14_code 28 = .ok (.getfield 29, 3) := by decide +kernel
theorem d13_31 : decode prog_2_method_14_code 31 = .ok (.iload_n 3, 1) := by decide +kernel
theorem d13_32 : decode prog_2_method_14_code 32 = .ok (.iaload, 1) := by decide +kernel
theorem d13_33 : decode prog_2_method_14_code 33 = .ok (.invokevirtual 67, 3) := by decide +kernel
theorem d13_36 : decode prog_2_method_14_code 36 = .ok (.aload_n 0, 1) := by decide +kernel
theorem d13_37 : decode prog_2_method_14_code 37 = .ok (.getfield 35, 3) := by decide +kernel
theorem d13_40 : decode prog_2_method_14_code 40 = .ok (.iload_n 3, 1) := by decide +kernel
theorem d13_41 : decode prog_2_method_14_code 41 = .ok (.iaload, 1) := by decide +kernel
theorem d13_42 : decode prog_2_method_14_code 42 = .ok (.if_icmp .eq 5, 3) := by decide +kernel
theorem d13_45 : decode prog_2_method_14_code 45 = .ok (.iconst 0, 1) := by decide +kernel
theorem d13_46 : decode prog_2_method_14_code 46 = .ok (.ireturn, 1) := by decide +kernel
theorem d13_47 : decode prog_2_method_14_code 47 = .ok (.iinc 3 1, 3) := by decide +kernel
theorem d13_50 : decode prog_2_method_14_code 50 = .ok (.goto (-48), 3) := by decide +kernel
theorem d13_53 : decode prog_2_method_14_code 53 = .ok (.iconst 1, 1) := by decide +kernel
theorem d13_54 : decode prog_2_method_14_code 54 = .ok (.ireturn, 1) := by decide +kernel
theorem b13 {X : mj_X} {d : Nat} {w : mj_W} {x0 : Nat} {x1 : Nat} {x2 : Int32} : mj_call X d 13 [.ref x0, .ref x1, .int x2] w = mj_exec X d 13 0 [some (.ref x0), some (.ref x1), some (.int x2), none] [] w := mw_ent mw_m13 (Nat.le_of_ble_eq_true rfl) rfl
theorem b13_0 {X : mj_X} {d : Nat} {s : mw_S} {k0 : Nat} {k1 : Nat} {x2 : Int32} {l3 : Option Value} (h0 : mw_cl k0 = some 0) (h1 : mw_cl k1 = some 3) : mj_exec X d 13 0 [some (.ref k0), some (.ref k1), some (.int x2), l3] [] (mw_U s) = mj_exec X d 13 2 [some (.ref k0), some (.ref k1), some (.int x2), some (.int (nI 0))] [] (mw_U s) := (mj_q_iconst mw_m13 d13_0 mw_k_iconst_0).trans (mj_q_istore_n mw_m13 d13_1 (Nat.le_of_ble_eq_true rfl) rfl rfl)
theorem b13_2 {X : mj_X} {d : Nat} {s : mw_S} {k0 : Nat} {k1 : Nat} {x2 : Int32} {x3 : Int32} (h0 : mw_cl k0 = some 0) (h1 : mw_cl k1 = some 3) : mj_exec X d 13 2 [some (.ref k0), some (.ref k1), some (.int x2), some (.int x3)] [] (mw_U s) = if (s.1 k0 7) ≤ x3 then mj_exec X d 13 53 [some (.ref k0), some (.ref k1), some (.int x2), some (.int x3)] [] (mw_U s) else mj_exec X d 13 10 [some (.ref k0), some (.ref k1), some (.int x2), some (.int x3)] [] (mw_U s) := (mj_q_iload_n mw_m13 d13_2 rfl).trans ((mj_q_aload_n mw_m13 d13_3 rfl (mw_neo h0)).trans ((mw_q_geti mw_m13 d13_4 mw_p0_38 h0 (mw_f0_7 h0)).trans (mj_q_icmp_ge mw_m13 d13_7 rfl)))
theorem b13_10 {X : mj_X} {d : Nat} {s : mw_S} {k0 : Nat} {k1 : Nat} {x2 : Int32} {x3 : Int32} (h0 : mw_cl k0 = some 0) (h1 : mw_cl k1 = some 3) : mj_exec X d 13 10 [some (.ref k0), some (.ref k1), some (.int x2), some (.int x3)] [] (mw_U s) = if (nI 8) ≤ x3 then mj_exec X d 13 53 [some (.ref k0), some (.ref k1), some (.int x2), some (.int x3)] [] (mw_U s) else mj_exec X d 13 16 [some (.ref k0), some (.ref k1), some (.int x2), some (.int x3)] [] (mw_U s) := (mj_q_iload_n mw_m13 d13_10 rfl).trans ((mj_q_bipush mw_m13 d13_11 mw_k_bipush_8).trans (mj_q_icmp_ge mw_m13 d13_13 rfl))
theorem b13_16 {X : mj_X} {d : Nat} {s : mw_S} {k0 : Nat} {k1 : Nat} {x2 : Int32} {x3 : Int32} (h0 : mw_cl k0 = some 0) (h1 : mw_cl k1 = some 3) : mj_exec X d 13 16 [some (.ref k0), some (.ref k1), some (.int x2), some (.int x3)] [] (mw_U s) = if mw_in 8 x3 = true then if (s.1 (k0 + 5) (x3).toNatClampNeg) = x2 then mj_exec X d 13 26 [some (.ref k0), some (.ref k1), some (.int x2), some (.int x3)] [] (mw_U s) else mj_exec X d 13 47 [some (.ref k0), some (.ref k1), some (.int x2), some (.int x3)] [] (mw_U s) else none := (mj_q_aload_n mw_m13 d13_16 rfl (mw_neo h0)).trans ((mw_q_getr mw_m13 d13_17 mw_p0_32 h0 (mw_f0_5 h0)).trans ((mj_q_iload_n mw_m13 d13_20 rfl).trans ((mw_h_iald mw_m13 d13_21 (mw_a0_5 h0)).trans (mw_g ((mj_q_iload_n mw_m13 d13_22 rfl).trans (mj_q_icmp_ne mw_m13 d13_23 rfl))))))
theorem b13_26 {X : mj_X} {d : Nat} {s : mw_S} {k0 : Nat} {k1 : Nat} {x2 : Int32} {x3 : Int32} (h0 : mw_cl k0 = some 0) (h1 : mw_cl k1 = some 3) : mj_exec X (d + 1) 13 26 [some (.ref k0), some (.ref k1), some (.int x2), some (.int x3)] [] (mw_U s) = if mw_in 8 x3 = true then (mj_call X d 37 [.ref k1, .int (s.1 (k0 + 4) (x3).toNatClampNeg)] (mw_U s)).bind (mj_bk X (d + 1) 13 36 [some (.ref k0), some (.ref k1), some (.int x2), some (.int x3)] []) else none := (mj_q_aload_n mw_m13 d13_26 rfl (mw_neo h1)).trans ((mj_q_aload_n mw_m13 d13_27 rfl (mw_neo h0)).trans ((mw_q_getr mw_m13 d13_28 mw_p0_29 h0 (mw_f0_4 h0)).trans ((mj_q_iload_n mw_m13 d13_31 rfl).trans ((mw_h_iald mw_m13 d13_32 (mw_a0_4 h0)).trans (mw_g (mw_q_callv mw_m13 rfl d13_33 mw_p0_67 mw_m37 rfl rfl (Nat.le_of_ble_eq_true rfl) (Nat.le_of_ble_eq_true rfl) rfl (mw_rcv h1) rfl rfl))))))
theorem b13_36 {X : mj_X} {d : Nat} {s : mw_S} {k0 : Nat} {k1 : Nat} {x2 : Int32} {x3 : Int32} {xs0 : Int32} (h0 : mw_cl k0 = some 0) (h1 : mw_cl k1 = some 3) : mj_exec X d 13 36 [some (.ref k0), some (.ref k1), some (.int x2), some (.int x3)] [.int xs0] (mw_U s) = if mw_in 8 x3 = true then if xs0 = (s.1 (k0 + 6) (x3).toNatClampNeg) then mj_exec X d 13 47 [some (.ref k0), some (.ref k1), some (.int x2), some (.int x3)] [] (mw_U s) else mj_exec X d 13 45 [some (.ref k0), some (.ref k1), some (.int x2), some (.int x3)] [] (mw_U s) else none := (mj_q_aload_n mw_m13 d13_36 rfl (mw_neo h0)).trans ((mw_q_getr mw_m13 d13_37 mw_p0_35 h0 (mw_f0_6 h0)).trans ((mj_q_iload_n mw_m13 d13_40 rfl).trans ((mw_h_iald mw_m13 d13_41 (mw_a0_6 h0)).trans (mw_g (mj_q_icmp_eq mw_m13 d13_42 rfl)))))
theorem b13_45 {X : mj_X} {d : Nat} {s : mw_S} {k0 : Nat} {k1 : Nat} {x2 : Int32} {x3 : Int32} (h0 : mw_cl k0 = some 0) (h1 : mw_cl k1 = some 3) : mj_exec X d 13 45 [some (.ref k0), some (.ref k1), some (.int x2), some (.int x3)] [] (mw_U s) = some (.inl (some (.int (nI 0))), mw_U s) := (mj_q_iconst mw_m13 d13_45 mw_k_iconst_0).trans (mj_q_iret mw_m13 d13_46 (by decide))
theorem b13_47 {X : mj_X} {d : Nat} {s : mw_S} {k0 : Nat} {k1 : Nat} {x2 : Int32} {x3 : Int32} (h0 : mw_cl k0 = some 0) (h1 : mw_cl k1 = some 3) : mj_exec X d 13 47 [some (.ref k0), some (.ref k1), some (.int x2), some (.int x3)] [] (mw_U s) = mj_exec X d 13 2 [some (.ref k0), some (.ref k1), some (.int x2), some (.int (x3 + (nI 1)))] [] (mw_U s) := (mj_q_iinc mw_m13 d13_47 rfl (Nat.le_of_ble_eq_true rfl) rfl mw_k_iconst_1 rfl).trans (mj_q_goto mw_m13 d13_50 rfl)
theorem b13_53 {X : mj_X} {d : Nat} {s : mw_S} {k0 : Nat} {k1 : Nat} {x2 : Int32} {x3 : Int32} (h0 : mw_cl k0 = some 0) (h1 : mw_cl k1 = some 3) : mj_exec X d 13 53 [some (.ref k0), some (.ref k1), some (.int x2), some (.int x3)] [] (mw_U s) = some (.inl (some (.int (nI 1))), mw_U s) := (mj_q_iconst mw_m13 d13_53 mw_k_iconst_1).trans (mj_q_iret mw_m13 d13_54 (by decide))
/-- WivesQuarrels$Rules.letPass -/
theorem d112_0 : decode prog_9_method_11_code 0 = .ok (.iconst 0, 1) := by decide +kernel
theorem d112_1 : decode prog_9_method_11_code 1 = .ok (.istore_n 3, 1) := by decide +kernel
theorem d112_2 : decode prog_9_method_11_code 2 = .ok (.iload_n 3, 1) := by decide +kernel
theorem d112_3 : decode prog_9_method_11_code 3 = .ok (.iload_n 2, 1) := by decide +kernel
theorem d112_4 : decode prog_9_method_11_code 4 = .ok (.if_icmp .ge 45, 3) := by decide +kernel
theorem d112_7 : decode prog_9_method_11_code 7 = .ok (.iconst 0, 1) := by decide +kernel
theorem d112_8 : decode prog_9_method_11_code 8 = .ok (.istore 4, 2) := by decide +kernel
theorem d112_10 : decode prog_9_method_11_code 10 = .ok (.iload 4, 2) := by decide +kernel
theorem d112_12 : decode prog_9_method_11_code 12 = .ok (.bipush 28, 2) := by decide +kernel
theorem d112_14 : decode prog_9_method_11_code 14 = .ok (.if_icmp .ge 25, 3) := by decide +kernel
theorem d112_17 : decode prog_9_method_11_code 17 = .ok (.aload_n 1, 1) := by decide +kernel
theorem d112_18 : decode prog_9_method_11_code 18 = .ok (.iload 4, 2) := by decide +kernel
theorem d112_20 : decode prog_9_method_11_code 20 = .ok (.invokevirtual 43, 3) := by decide +kernel
theorem d112_23 : decode prog_9_method_11_code 23 = .ok (.ifCond .eq 10, 3) := by decide +kernel
theorem d112_26 : decode prog_9_method_11_code 26 = .ok (.aload_n 0, 1) := by decide +kernel
theorem d112_27 : decode prog_9_method_11_code 27 = .ok (.aload_n 1, 1) := by decide +kernel
theorem d112_28 : decode prog_9_method_11_code 28 = .ok (.iload 4, 2) := by decide +kernel
theorem d112_30 : decode prog_9_method_11_code 30 = .ok (.invokevirtual 49, 3) := by decide +kernel
theorem d112_33 : decode prog_9_method_11_code 33 = .ok (.iinc 4 1, 3) := by decide +kernel
theorem d112_36 : decode prog_9_method_11_code 36 = .ok (.goto (-26), 3) := by decide +kernel
theorem d112_39 : decode prog_9_method_11_code 39 = .ok (.aload_n 1, 1) := by decide +kernel
theorem d112_40 : decode prog_9_method_11_code 40 = .ok (.invokevirtual 53, 3) := by decide +kernel
theorem d112_43 : decode prog_9_method_11_code 43 = .ok (.iinc 3 1, 3) := by decide +kernel
theorem d112_46 : decode prog_9_method_11_code 46 = .ok (.goto (-44), 3) := by decide +kernel
theorem d112_49 : decode prog_9_method_11_code 49 = .ok (.return_, 1) := by decide +kernel
theorem b112 {X : mj_X} {d : Nat} {w : mj_W} {x0 : Nat} {x1 : Nat} {x2 : Int32} : mj_call X d 112 [.ref x0, .ref x1, .int x2] w = mj_exec X d 112 0 [some (.ref x0), some (.ref x1), some (.int x2), none, none] [] w := mw_ent mw_m112 (Nat.le_of_ble_eq_true rfl) rfl
theorem b112_0 {X : mj_X} {d : Nat} {s : mw_S} {k0 : Nat} {k1 : Nat} {x2 : Int32} {l3 : Option Value} {l4 : Option Value} (h0 : mw_cl k0 = some 6) (h1 : mw_cl k1 = some 3) : mj_exec X d 112 0 [some (.ref k0), some (.ref k1), some (.int x2), l3, l4] [] (mw_U s) = mj_exec X d 112 2 [some (.ref k0), some (.ref k1), some (.int x2), some (.int (nI 0)), l4] [] (mw_U s) := (mj_q_iconst mw_m112 d112_0 mw_k_iconst_0).trans (mj_q_istore_n mw_m112 d112_1 (Nat.le_of_ble_eq_true rfl) rfl rfl)
theorem b112_2 {X : mj_X} {d : Nat} {s : mw_S} {k0 : Nat} {k1 : Nat} {x2 : Int32} {x3 : Int32} {l4 : Option Value} (h0 : mw_cl k0 = some 6) (h1 : mw_cl k1 = some 3) : mj_exec X d 112 2 [some (.ref k0), some (.ref k1), some (.int x2), some (.int x3), l4] [] (mw_U s) = if x2 ≤ x3 then mj_exec X d 112 49 [some (.ref k0), some (.ref k1), some (.int x2), some (.int x3), l4] [] (mw_U s) else mj_exec X d 112 7 [some (.ref k0), some (.ref k1), some (.int x2), some (.int x3), l4] [] (mw_U s) := (mj_q_iload_n mw_m112 d112_2 rfl).trans ((mj_q_iload_n mw_m112 d112_3 rfl).trans (mj_q_icmp_ge mw_m112 d112_4 rfl))
theorem b112_7 {X : mj_X} {d : Nat} {s : mw_S} {k0 : Nat} {k1 : Nat} {x2 : Int32} {x3 : Int32} {l4 : Option Value} (h0 : mw_cl k0 = some 6) (h1 : mw_cl k1 = some 3) : mj_exec X d 112 7 [some (.ref k0), some (.ref k1), some (.int x2), some (.int x3), l4] [] (mw_U s) = mj_exec X d 112 10 [some (.ref k0), some (.ref k1), some (.int x2), some (.int x3), some (.int (nI 0))] [] (mw_U s) := (mj_q_iconst mw_m112 d112_7 mw_k_iconst_0).trans (mj_q_istore mw_m112 d112_8 (Nat.le_of_ble_eq_true rfl) rfl rfl)
theorem b112_10 {X : mj_X} {d : Nat} {s : mw_S} {k0 : Nat} {k1 : Nat} {x2 : Int32} {x3 : Int32} {x4 : Int32} (h0 : mw_cl k0 = some 6) (h1 : mw_cl k1 = some 3) : mj_exec X d 112 10 [some (.ref k0), some (.ref k1), some (.int x2), some (.int x3), some (.int x4)] [] (mw_U s) = if (nI 28) ≤ x4 then mj_exec X d 112 39 [some (.ref k0), some (.ref k1), some (.int x2), some (.int x3), some (.int x4)] [] (mw_U s) else mj_exec X d 112 17 [some (.ref k0), some (.ref k1), some (.int x2), some (.int x3), some (.int x4)] [] (mw_U s) := (mj_q_iload mw_m112 d112_10 rfl).trans ((mj_q_bipush mw_m112 d112_12 mw_k_bipush_28).trans (mj_q_icmp_ge mw_m112 d112_14 rfl))
theorem b112_17 {X : mj_X} {d : Nat} {s : mw_S} {k0 : Nat} {k1 : Nat} {x2 : Int32} {x3 : Int32} {x4 : Int32} (h0 : mw_cl k0 = some 6) (h1 : mw_cl k1 = some 3) : mj_exec X (d + 1) 112 17 [some (.ref k0), some (.ref k1), some (.int x2), some (.int x3), some (.int x4)] [] (mw_U s) = (mj_call X d 36 [.ref k1, .int x4] (mw_U s)).bind (mj_bk X (d + 1) 112 23 [some (.ref k0), some (.ref k1), some (.int x2), some (.int x3), some (.int x4)] []) := (mj_q_aload_n mw_m112 d112_17 rfl (mw_neo h1)).trans ((mj_q_iload mw_m112 d112_18 rfl).trans (mw_q_callv mw_m112 rfl d112_20 mw_p6_43 mw_m36 rfl rfl (Nat.le_of_ble_eq_true rfl) (Nat.le_of_ble_eq_true rfl) rfl (mw_rcv h1) rfl rfl))
theorem b112_23 {X : mj_X} {d : Nat} {s : mw_S} {k0 : Nat} {k1 : Nat} {x2 : Int32} {x3 : Int32} {x4 : Int32} {xs0 : Int32} (h0 : mw_cl k0 = some 6) (h1 : mw_cl k1 = some 3) : mj_exec X d 112 23 [some (.ref k0), some (.ref k1), some (.int x2), some (.int x3), some (.int x4)] [.int xs0] (mw_U s) = if xs0 = 0 then mj_exec X d 112 33 [some (.ref k0), some (.ref k1), some (.int x2), some (.int x3), some (.int x4)] [] (mw_U s) else mj_exec X d 112 26 [some (.ref k0), some (.ref k1), some (.int x2), some (.int x3), some (.int x4)] [] (mw_U s) := mj_q_if_eq mw_m112 d112_23 rfl
theorem b112_26 {X : mj_X} {d : Nat} {s : mw_S} {k0 : Nat} {k1 : Nat} {x2 : Int32} {x3 : Int32} {x4 : Int32} (h0 : mw_cl k0 = some 6) (h1 : mw_cl k1 = some 3) : mj_exec X (d + 1) 112 26 [some (.ref k0), some (.ref k1), some (.int x2), some (.int x3), some (.int x4)] [] (mw_U s) = (mj_call X d 113 [.ref k0, .ref k1, .int x4] (mw_U s)).bind (mj_bk X (d + 1) 112 33 [some (.ref k0), some (.ref k1), some (.int x2), some (.int x3), some (.int x4)] []) := (mj_q_aload_n mw_m112 d112_26 rfl (mw_neo h0)).trans ((mj_q_aload_n mw_m112 d112_27 rfl (mw_neo h1)).trans ((mj_q_iload mw_m112 d112_28 rfl).trans (mw_q_callv mw_m112 rfl d112_30 mw_p6_49 mw_m113 rfl rfl (Nat.le_of_ble_eq_true rfl) (Nat.le_of_ble_eq_true rfl) rfl (mw_rcv h0) rfl rfl)))
theorem b112_33 {X : mj_X} {d : Nat} {s : mw_S} {k0 : Nat} {k1 : Nat} {x2 : Int32} {x3 : Int32} {x4 : Int32} (h0 : mw_cl k0 = some 6) (h1 : mw_cl k1 = some 3) : mj_exec X d 112 33 [some (.ref k0), some (.ref k1), some (.int x2), some (.int x3), some (.int x4)] [] (mw_U s) = mj_exec X d 112 10 [some (.ref k0), some (.ref k1), some (.int x2), some (.int x3), some (.int (x4 + (nI 1)))] [] (mw_U s) := (mj_q_iinc mw_m112 d112_33 rfl (Nat.le_of_ble_eq_true rfl) rfl mw_k_iconst_1 rfl).trans (mj_q_goto mw_m112 d112_36 rfl)
theorem b112_39 {X : mj_X} {d : Nat} {s : mw_S} {k0 : Nat} {k1 : Nat} {x2 : Int32} {x3 : Int32} {x4 : Int32} (h0 : mw_cl k0 = some 6) (h1 : mw_cl k1 = some 3) : mj_exec X (d + 1) 112 39 [some (.ref k0), some (.ref k1), some (.int x2), some (.int x3), some (.int x4)] [] (mw_U s) = (mj_call X d 45 [.ref k1] (mw_U s)).bind (mj_bk X (d + 1) 112 43 [some (.ref k0), some (.ref k1), some (.int x2), some (.int x3), some (.int x4)] []) := (mj_q_aload_n mw_m112 d112_39 rfl (mw_neo h1)).trans (mw_q_callv mw_m112 rfl d112_40 mw_p6_53 mw_m45 rfl rfl (Nat.le_of_ble_eq_true rfl) (Nat.le_of_ble_eq_true rfl) rfl (mw_rcv h1) rfl rfl)
theorem b112_43 {X : mj_X} {d : Nat} {s : mw_S} {k0 : Nat} {k1 : Nat} {x2 : Int32} {x3 : Int32} {x4 : Int32} (h0 : mw_cl k0 = some 6) (h1 : mw_cl k1 = some 3) : mj_exec X d 112 43 [some (.ref k0), some (.ref k1), some (.int x2), some (.int x3), some (.int x4)] [] (mw_U s) = mj_exec X d 112 2 [some (.ref k0), some (.ref k1), some (.int x2), some (.int (x3 + (nI 1))), some (.int x4)] [] (mw_U s) := (mj_q_iinc mw_m112 d112_43 rfl (Nat.le_of_ble_eq_true rfl) rfl mw_k_iconst_1 rfl).trans (mj_q_goto mw_m112 d112_46 rfl)
theorem b112_49 {X : mj_X} {d : Nat} {s : mw_S} {k0 : Nat} {k1 : Nat} {x2 : Int32} {x3 : Int32} {l4 : Option Value} (h0 : mw_cl k0 = some 6) (h1 : mw_cl k1 = some 3) : mj_exec X d 112 49 [some (.ref k0), some (.ref k1), some (.int x2), some (.int x3), l4] [] (mw_U s) = some (.inl none, mw_U s) := mj_q_vret mw_m112 d112_49 rfl
/-- WivesQuarrels$Rules.letWork -/
theorem d113_0 : decode prog_9_method_12_code 0 = .ok (.aload_n 0, 1) := by decide +kernel
theorem d113_1 : decode prog_9_method_12_code 1 = .ok (.aload_n 1, 1) := by decide +kernel
theorem d113_2 : decode prog_9_method_12_code 2 = .ok (.iload_n 2, 1) := by decide +kernel
theorem d113_3 : decode prog_9_method_12_code 3 = .ok (.invokevirtual 56, 3) := by decide +kernel
theorem d113_6 : decode prog_9_method_12_code 6 = .ok (.bipush 99, 2) := by decide +kernel
theorem d113_8 : decode prog_9_method_12_code 8 = .ok (.aload_n 0, 1) := by decide +kernel
theorem d113_9 : decode prog_9_method_12_code 9 = .ok (.getfield 31, 3) := by decide +kernel
theorem d113_12 : decode prog_9_method_12_code 12 = .ok (.iconst 0, 1) := by decide +kernel
theorem d113_13 : decode prog_9_method_12_code 13 = .ok (.iaload, 1) := by decide +kernel
theorem d113_14 : decode prog_9_method_12_code 14 = .ok (.aload_n 0, 1) := by decide +kernel
theorem d113_15 : decode prog_9_method_12_code 15 = .ok (.invokevirtual 59, 3) := by decide +kernel
theorem d113_18 : decode prog_9_method_12_code 18 = .ok (.iadd, 1) := by decide +kernel
theorem d113_19 : decode prog_9_method_12_code 19 = .ok (.invokestatic 63, 3) := by decide +kernel
theorem d113_22 : decode prog_9_method_12_code 22 = .ok (.istore_n 3, 1) := by decide +kernel
theorem d113_23 : decode prog_9_method_12_code 23 = .ok (.iload_n 3, 1) := by decide +kernel
theorem d113_24 : decode prog_9_method_12_code 24 = .ok (.ifCond .gt 9, 3) := by decide +kernel
theorem d113_27 : decode prog_9_method_12_code 27 = .ok (.aload_n 1, 1) := by decide +kernel
theorem d113_28 : decode prog_9_method_12_code 28 = .ok (.iload_n 2, 1) := by decide +kernel
theorem d113_29 : decode prog_9_method_12_code 29 = .ok (.invokevirtual 69, 3) := by decide +kernel
theorem d113_32 : decode prog_9_method_12_code 32 = .ok (.return_, 1) := by decide +kernel
theorem d113_33 : decode prog_9_method_12_code 33 = .ok (.aload_n 1, 1) := by decide +kernel
theorem d113_34 : decode prog_9_method_12_code 34 = .ok (.iload_n 2, 1) := by decide +kernel
theorem d113_35 : decode prog_9_method_12_code 35 = .ok (.iload_n 3, 1) := by decide +kernel
theorem d113_36 : decode prog_9_method_12_code 36 = .ok (.invokevirtual 73, 3) := by decide +kernel
theorem d113_39 : decode prog_9_method_12_code 39 = .ok (.aload_n 0, 1) := by decide +kernel
theorem d113_40 : decode prog_9_method_12_code 40 = .ok (.getfield 31, 3) := by decide +kernel
theorem d113_43 : decode prog_9_method_12_code 43 = .ok (.iconst 0, 1) := by decide +kernel
theorem d113_44 : decode prog_9_method_12_code 44 = .ok (.iload_n 3, 1) := by decide +kernel
theorem d113_45 : decode prog_9_method_12_code 45 = .ok (.iastore, 1) := by decide +kernel
theorem d113_46 : decode prog_9_method_12_code 46 = .ok (.aload_n 0, 1) := by decide +kernel
theorem d113_47 : decode prog_9_method_12_code 47 = .ok (.invokevirtual 77, 3) := by decide +kernel
theorem d113_50 : decode prog_9_method_12_code 50 = .ok (.ifCond .eq 8, 3) := by decide +kernel
theorem d113_53 : decode prog_9_method_12_code 53 = .ok (.aload_n 1, 1) := by decide +kernel
theorem d113_54 : decode prog_9_method_12_code 54 = .ok (.iload_n 2, 1) := by decide +kernel
theorem d113_55 : decode prog_9_method_12_code 55 = .ok (.invokevirtual 81, 3) := by decide +kernel
theorem d113_58 : decode prog_9_method_12_code 58 = .ok (.return_, 1) := by decide +kernel
theorem b113 {X : mj_X} {d : Nat} {w : mj_W} {x0 : Nat} {x1 : Nat} {x2 : Int32} : mj_call X d 113 [.ref x0, .ref x1, .int x2] w = mj_exec X d 113 0 [some (.ref x0), some (.ref x1), some (.int x2), none] [] w := mw_ent mw_m113 (Nat.le_of_ble_eq_true rfl) rfl
theorem b113_0 {X : mj_X} {d : Nat} {s : mw_S} {k0 : Nat} {k1 : Nat} {x2 : Int32} {l3 : Option Value} (h0 : mw_cl k0 = some 6) (h1 : mw_cl k1 = some 3) : mj_exec X (d + 1) 113 0 [some (.ref k0), some (.ref k1), some (.int x2), l3] [] (mw_U s) = (mj_call X d 114 [.ref k0, .ref k1, .int x2] (mw_U s)).bind (mj_bk X (d + 1) 113 6 [some (.ref k0), some (.ref k1), some (.int x2), l3] []) := (mj_q_aload_n mw_m113 d113_0 rfl (mw_neo h0)).trans ((mj_q_aload_n mw_m113 d113_1 rfl (mw_neo h1)).trans ((mj_q_iload_n mw_m113 d113_2 rfl).trans (mw_q_callv mw_m113 rfl d113_3 mw_p6_56 mw_m114 rfl rfl (Nat.le_of_ble_eq_true rfl) (Nat.le_of_ble_eq_true rfl) rfl (mw_rcv h0) rfl rfl)))
theorem b113_6 {X : mj_X} {d : Nat} {s : mw_S} {k0 : Nat} {k1 : Nat} {x2 : Int32} {l3 : Option Value} (h0 : mw_cl k0 = some 6) (h1 : mw_cl k1 = some 3) : mj_exec X (d + 1) 113 6 [some (.ref k0), some (.ref k1), some (.int x2), l3] [] (mw_U s) = if mw_in 6 (nI 0) = true then (mj_call X d 115 [.ref k0] (mw_U s)).bind (mj_bk X (d + 1) 113 18 [some (.ref k0), some (.ref k1), some (.int x2), l3] [.int (s.1 (k0 + 2) ((nI 0)).toNatClampNeg), .int (nI 99)]) else none := (mj_q_bipush mw_m113 d113_6 mw_k_bipush_99).trans ((mj_q_aload_n mw_m113 d113_8 rfl (mw_neo h0)).trans ((mw_q_getr mw_m113 d113_9 mw_p6_31 h0 (mw_f6_6 h0)).trans ((mj_q_iconst mw_m113 d113_12 mw_k_iconst_0).trans ((mw_h_iald mw_m113 d113_13 (mw_a6_6 h0)).trans (mw_g ((mj_q_aload_n mw_m113 d113_14 rfl (mw_neo h0)).trans (mw_q_callv mw_m113 rfl d113_15 mw_p6_59 mw_m115 rfl rfl (Nat.le_of_ble_eq_true rfl) (Nat.le_of_ble_eq_true rfl) rfl (mw_rcv h0) rfl rfl)))))))
theorem b113_18 {X : mj_X} {d : Nat} {s : mw_S} {k0 : Nat} {k1 : Nat} {x2 : Int32} {l3 : Option Value} {xs0 : Int32} {xs1 : Int32} {xs2 : Int32} (h0 : mw_cl k0 = some 6) (h1 : mw_cl k1 = some 3) : mj_exec X d 113 18 [some (.ref k0), some (.ref k1), some (.int x2), l3] [.int xs2, .int xs1, .int xs0] (mw_U s) = if 0 < (mw_min xs0 (xs1 + xs2)) then mj_exec X d 113 33 [some (.ref k0), some (.ref k1), some (.int x2), some (.int (mw_min xs0 (xs1 + xs2)))] [] (mw_U s) else mj_exec X d 113 27 [some (.ref k0), some (.ref k1), some (.int x2), some (.int (mw_min xs0 (xs1 + xs2)))] [] (mw_U s) := (mj_q_iadd mw_m113 d113_18).trans ((mj_q_min mw_m113 d113_19 mw_p6_63 (Nat.le_of_ble_eq_true rfl)).trans ((mj_q_istore_n mw_m113 d113_22 (Nat.le_of_ble_eq_true rfl) rfl rfl).trans ((mj_q_iload_n mw_m113 d113_23 rfl).trans (mj_q_if_gt mw_m113 d113_24 rfl))))
theorem b113_27 {X : mj_X} {d : Nat} {s : mw_S} {k0 : Nat} {k1 : Nat} {x2 : Int32} {x3 : Int32} (h0 : mw_cl k0 = some 6) (h1 : mw_cl k1 = some 3) : mj_exec X (d + 1) 113 27 [some (.ref k0), some (.ref k1), some (.int x2), some (.int x3)] [] (mw_U s) = (mj_call X d 42 [.ref k1, .int x2] (mw_U s)).bind (mj_bk X (d + 1) 113 32 [some (.ref k0), some (.ref k1), some (.int x2), some (.int x3)] []) := (mj_q_aload_n mw_m113 d113_27 rfl (mw_neo h1)).trans ((mj_q_iload_n mw_m113 d113_28 rfl).trans (mw_q_callv mw_m113 rfl d113_29 mw_p6_69 mw_m42 rfl rfl (Nat.le_of_ble_eq_true rfl) (Nat.le_of_ble_eq_true rfl) rfl (mw_rcv h1) rfl rfl))
theorem b113_32 {X : mj_X} {d : Nat} {s : mw_S} {k0 : Nat} {k1 : Nat} {x2 : Int32} {x3 : Int32} (h0 : mw_cl k0 = some 6) (h1 : mw_cl k1 = some 3) : mj_exec X d 113 32 [some (.ref k0), some (.ref k1), some (.int x2), some (.int x3)] [] (mw_U s) = some (.inl none, mw_U s) := mj_q_vret mw_m113 d113_32 rfl
theorem b113_33 {X : mj_X} {d : Nat} {s : mw_S} {k0 : Nat} {k1 : Nat} {x2 : Int32} {x3 : Int32} (h0 : mw_cl k0 = some 6) (h1 : mw_cl k1 = some 3) : mj_exec X (d + 1) 113 33 [some (.ref k0), some (.ref k1), some (.int x2), some (.int x3)] [] (mw_U s) = (mj_call X d 43 [.ref k1, .int x2, .int x3] (mw_U s)).bind (mj_bk X (d + 1) 113 39 [some (.ref k0), some (.ref k1), some (.int x2), some (.int x3)] []) := (mj_q_aload_n mw_m113 d113_33 rfl (mw_neo h1)).trans ((mj_q_iload_n mw_m113 d113_34 rfl).trans ((mj_q_iload_n mw_m113 d113_35 rfl).trans (mw_q_callv mw_m113 rfl d113_36 mw_p6_73 mw_m43 rfl rfl (Nat.le_of_ble_eq_true rfl) (Nat.le_of_ble_eq_true rfl) rfl (mw_rcv h1) rfl rfl)))
theorem b113_39 {X : mj_X} {d : Nat} {s : mw_S} {k0 : Nat} {k1 : Nat} {x2 : Int32} {x3 : Int32} (h0 : mw_cl k0 = some 6) (h1 : mw_cl k1 = some 3) : mj_exec X (d + 1) 113 39 [some (.ref k0), some (.ref k1), some (.int x2), some (.int x3)] [] (mw_U s) = if mw_in 6 (nI 0) = true then (mj_call X d 119 [.ref k0] (mw_U (mw_p s (k0 + 2) ((nI 0)).toNatClampNeg x3))).bind (mj_bk X (d + 1) 113 50 [some (.ref k0), some (.ref k1), some (.int x2), some (.int x3)] []) else none := (mj_q_aload_n mw_m113 d113_39 rfl (mw_neo h0)).trans ((mw_q_getr mw_m113 d113_40 mw_p6_31 h0 (mw_f6_6 h0)).trans ((mj_q_iconst mw_m113 d113_43 mw_k_iconst_0).trans ((mj_q_iload_n mw_m113 d113_44 rfl).trans ((mw_h_iast mw_m113 d113_45 (mw_a6_6 h0)).trans (mw_g ((mj_q_aload_n mw_m113 d113_46 rfl (mw_neo h0)).trans (mw_q_callv mw_m113 rfl d113_47 mw_p6_77 mw_m119 rfl rfl (Nat.le_of_ble_eq_true rfl) (Nat.le_of_ble_eq_true rfl) rfl (mw_rcv h0) rfl rfl)))))))
theorem b113_50 {X : mj_X} {d : Nat} {s : mw_S} {k0 : Nat} {k1 : Nat} {x2 : Int32} {x3 : Int32} {xs0 : Int32} (h0 : mw_cl k0 = some 6) (h1 : mw_cl k1 = some 3) : mj_exec X d 113 50 [some (.ref k0), some (.ref k1), some (.int x2), some (.int x3)] [.int xs0] (mw_U s) = if xs0 = 0 then mj_exec X d 113 58 [some (.ref k0), some (.ref k1), some (.int x2), some (.int x3)] [] (mw_U s) else mj_exec X d 113 53 [some (.ref k0), some (.ref k1), some (.int x2), some (.int x3)] [] (mw_U s) := mj_q_if_eq mw_m113 d113_50 rfl
theorem b113_53 {X : mj_X} {d : Nat} {s : mw_S} {k0 : Nat} {k1 : Nat} {x2 : Int32} {x3 : Int32} (h0 : mw_cl k0 = some 6) (h1 : mw_cl k1 = some 3) : mj_exec X (d + 1) 113 53 [some (.ref k0), some (.ref k1), some (.int x2), some (.int x3)] [] (mw_U s) = (mj_call X d 44 [.ref k1, .int x2] (mw_U s)).bind (mj_bk X (d + 1) 113 58 [some (.ref k0), some (.ref k1), some (.int x2), some (.int x3)] []) := (mj_q_aload_n mw_m113 d113_53 rfl (mw_neo h1)).trans ((mj_q_iload_n mw_m113 d113_54 rfl).trans (mw_q_callv mw_m113 rfl d113_55 mw_p6_81 mw_m44 rfl rfl (Nat.le_of_ble_eq_true rfl) (Nat.le_of_ble_eq_true rfl) rfl (mw_rcv h1) rfl rfl))
theorem b113_58 {X : mj_X} {d : Nat} {s : mw_S} {k0 : Nat} {k1 : Nat} {x2 : Int32} {x3 : Int32} (h0 : mw_cl k0 = some 6) (h1 : mw_cl k1 = some 3) : mj_exec X d 113 58 [some (.ref k0), some (.ref k1), some (.int x2), some (.int x3)] [] (mw_U s) = some (.inl none, mw_U s) := mj_q_vret mw_m113 d113_58 rfl
/-- WivesQuarrels$Rules.setValues -/
theorem d114_0 : decode prog_9_method_16_code 0 = .ok (.iload_n 2, 1) := by decide +kernel
theorem d114_1 : decode prog_9_method_16_code 1 = .ok (.ifCond .lt 9, 3) := by decide +kernel
theorem d114_4 : decode prog_9_method_16_code 4 = .ok (.iload_n 2, 1) := by decide +kernel
theorem d114_5 : decode prog_9_method_16_code 5 = .ok (.bipush 28, 2) := by decide +kernel
theorem d114_7 : decode prog_9_method_16_code 7 = .ok (.if_icmp .lt 4, 3) := by decide +kernel
theorem d114_10 : decode prog_9_method_16_code 10 = .ok (.return_, 1) := by decide +kernel
theorem d114_11 : decode prog_9_method_16_code 11 = .ok (.getstatic 96, 3) := by decide +kernel
theorem d114_14 : decode prog_9_method_16_code 14 = .ok (.iload_n 2, 1) := by decide +kernel
theorem d114_15 : decode prog_9_method_16_code 15 = .ok (.iaload, 1) := by decide +kernel
theorem d114_16 : decode prog_9_method_16_code 16 = .ok (.istore_n 3, 1) := by decide +kernel
theorem d114_17 : decode prog_9_method_16_code 17 = .ok (.getstatic 99, 3) := by decide +kernel
theorem d114_20 : decode prog_9_method_16_code 20 = .ok (.iload_n 2, 1) := by decide +kernel
theorem d114_21 : decode prog_9_method_16_code 21 = .ok (.iaload, 1) := by decide +kernel
theorem d114_22 : decode prog_9_method_16_code 22 = .ok (.istore 4, 2) := by decide +kernel
theorem d114_24 : decode prog_9_method_16_code 24 = .ok (.aload_n 0, 1) := by decide +kernel
theorem d114_25 : decode prog_9_method_16_code 25 = .ok (.getfield 31, 3) := by decide +kernel
theorem d114_28 : decode prog_9_method_16_code 28 = .ok (.iconst 0, 1) := by decide +kernel
theorem d114_29 : decode prog_9_method_16_code 29 = .ok (.aload_n 1, 1) := by decide +kernel
theorem d114_30 : decode prog_9_method_16_code 30 = .ok (.iload_n 2, 1) := by decide +kernel
theorem d114_31 : decode prog_9_method_16_code 31 = .ok (.invokevirtual 102, 3) := by decide +kernel
theorem d114_34 : decode prog_9_method_16_code 34 = .ok (.iastore, 1) := by decide +kernel
theorem d114_35 : decode prog_9_method_16_code 35 = .ok (.aload_n 0, 1) := by decide +kernel
theorem d114_36 : decode prog_9_method_16_code 36 = .ok (.getfield 31, 3) := by decide +kernel
theorem d114_39 : decode prog_9_method_16_code 39 = .ok (.iconst 1, 1) := by decide +kernel
theorem d114_40 : decode prog_9_method_16_code 40 = .ok (.aload_n 1, 1) := by decide +kernel
theorem d114_41 : decode prog_9_method_16_code 41 = .ok (.iload_n 3, 1) := by decide +kernel
theorem d114_42 : decode prog_9_method_16_code 42 = .ok (.invokevirtual 106, 3) := by decide +kernel
theorem d114_45 : decode prog_9_method_16_code 45 = .ok (.aload_n 1, 1) := by decide +kernel
theorem d114_46 : decode prog_9_method_16_code 46 = .ok (.iload 4, 2) := by decide +kernel
theorem d114_48 : decode prog_9_method_16_code 48 = .ok (.invokevirtual 106, 3) := by decide +kernel
theorem d114_51 : decode prog_9_method_16_code 51 = .ok (.iadd, 1) := by decide +kernel
theorem d114_52 : decode prog_9_method_16_code 52 = .ok (.iastore, 1) := by decide +kernel
theorem d114_53 : decode prog_9_method_16_code 53 = .ok (.aload_n 0, 1) := by decide +kernel
theorem d114_54 : decode prog_9_method_16_code 54 = .ok (.getfield 31, 3) := by decide +kernel
theorem d114_57 : decode prog_9_method_16_code 57 = .ok (.iconst 2, 1) := by decide +kernel
theorem d114_58 : decode prog_9_method_16_code 58 = .ok (.aload_n 1, 1) := by decide +kernel
theorem d114_59 : decode prog_9_method_16_code 59 = .ok (.iload_n 3, 1) := by decide +kernel
theorem d114_60 : decode prog_9_method_16_code 60 = .ok (.invokevirtual 106, 3) := by decide +kernel
theorem d114_63 : decode prog_9_method_16_code 63 = .ok (.aload_n 1, 1) := by decide +kernel
theorem d114_64 : decode prog_9_method_16_code 64 = .ok (.iload 4, 2) := by decide +kernel
theorem d114_66 : decode prog_9_method_16_code 66 = .ok (.invokevirtual 106, 3) := by decide +kernel
theorem d114_69 : decode prog_9_method_16_code 69 = .ok (.isub, 1) := by decide +kernel
theorem d114_70 : decode prog_9_method_16_code 70 = .ok (.invokestatic 109, 3) := by decide +kernel
theorem d114_73 : decode prog_9_method_16_code 73 = .ok (.iastore, 1) := by decide +kernel
theorem d114_74 : decode prog_9_method_16_code 74 = .ok (.aload_n 0, 1) := by decide +kernel
theorem d114_75 : decode prog_9_method_16_code 75 = .ok (.getfield 31, 3) := by decide +kernel
theorem d114_78 : decode prog_9_method_16_code 78 = .ok (.iconst 3, 1) := by decide +kernel
theorem d114_79 : decode prog_9_method_16_code 79 = .ok (.aload_n 1, 1) := by decide +kernel
theorem d114_80 : decode prog_9_method_16_code 80 = .ok (.iload_n 3, 1) := by decide +kernel
theorem d114_81 : decode prog_9_method_16_code 81 = .ok (.invokevirtual 112, 3) := by decide +kernel
theorem d114_84 : decode prog_9_method_16_code 84 = .ok (.invokestatic 115, 3) := by decide +kernel
theorem d114_87 : decode prog_9_method_16_code 87 = .ok (.aload_n 1, 1) := by decide +kernel
theorem d114_88 : decode prog_9_method_16_code 88 = .ok (.iload 4, 2) := by decide +kernel
theorem d114_90 : decode prog_9_method_16_code 90 = .ok (.invokevirtual 112, 3) := by decide +kernel
theorem d114_93 : decode prog_9_method_16_code 93 = .ok (.invokestatic 115, 3) := by decide +kernel
theorem d114_96 : decode prog_9_method_16_code 96 = .ok (.iadd, 1) := by decide +kernel
theorem d114_97 : decode prog_9_method_16_code 97 = .ok (.iconst 1, 1) := by decide +kernel
theorem d114_98 : decode prog_9_method_16_code 98 = .ok (.isub, 1) := by decide +kernel
theorem d114_99 : decode prog_9_method_16_code 99 = .ok (.iastore, 1) := by decide +kernel
theorem d114_100 : decode prog_9_method_16_code 100 = .ok (.aload_n 0, 1) := by decide +kernel
theorem d114_101 : decode prog_9_method_16_code 101 = .ok (.getfield 31, 3) := by decide +kernel
theorem d114_104 : decode prog_9_method_16_code 104 = .ok (.iconst 4, 1) := by decide +kernel
theorem d114_105 : decode prog_9_method_16_code 105 = .ok (.aload_n 1, 1) := by decide +kernel
theorem d114_106 : decode prog_9_method_16_code 106 = .ok (.iload_n 2, 1) := by decide +kernel
theorem d114_107 : decode prog_9_method_16_code 107 = .ok (.invokevirtual 120, 3) := by decide +kernel
theorem d114_110 : decode prog_9_method_16_code 110 = .ok (.iastore, 1) := by decide +kernel
theorem d114_111 : decode prog_9_method_16_code 111 = .ok (.aload_n 0, 1) := by decide +kernel
theorem d114_112 : decode prog_9_method_16_code 112 = .ok (.getfield 31, 3) := by decide +kernel
theorem d114_115 : decode prog_9_method_16_code 115 = .ok (.iconst 5, 1) := by decide +kernel
theorem d114_116 : decode prog_9_method_16_code 116 = .ok (.aload_n 1, 1) := by decide +kernel
theorem d114_117 : decode prog_9_method_16_code 117 = .ok (.invokevirtual 123, 3) := by decide +kernel
theorem d114_120 : decode prog_9_method_16_code 120 = .ok (.iastore, 1) := by decide +kernel
theorem d114_121 : decode prog_9_method_16_code 121 = .ok (.return_, 1) := by decide +kernel
theorem b114 {X : mj_X} {d : Nat} {w : mj_W} {x0 : Nat} {x1 : Nat} {x2 : Int32} : mj_call X d 114 [.ref x0, .ref x1, .int x2] w = mj_exec X d 114 0 [some (.ref x0), some (.ref x1), some (.int x2), none, none] [] w := mw_ent mw_m114 (Nat.le_of_ble_eq_true rfl) rfl
theorem b114_0 {X : mj_X} {d : Nat} {s : mw_S} {k0 : Nat} {k1 : Nat} {x2 : Int32} {l3 : Option Value} {l4 : Option Value} (h0 : mw_cl k0 = some 6) (h1 : mw_cl k1 = some 3) : mj_exec X d 114 0 [some (.ref k0), some (.ref k1), some (.int x2), l3, l4] [] (mw_U s) = if x2 < 0 then mj_exec X d 114 10 [some (.ref k0), some (.ref k1), some (.int x2), l3, l4] [] (mw_U s) else mj_exec X d 114 4 [some (.ref k0), some (.ref k1), some (.int x2), l3, l4] [] (mw_U s) := (mj_q_iload_n mw_m114 d114_0 rfl).trans (mj_q_if_lt mw_m114 d114_1 rfl)
theorem b114_4 {X : mj_X} {d : Nat} {s : mw_S} {k0 : Nat} {k1 : Nat} {x2 : Int32} {l3 : Option Value} {l4 : Option Value} (h0 : mw_cl k0 = some 6) (h1 : mw_cl k1 = some 3) : mj_exec X d 114 4 [some (.ref k0), some (.ref k1), some (.int x2), l3, l4] [] (mw_U s) = if x2 < (nI 28) then mj_exec X d 114 11 [some (.ref k0), some (.ref k1), some (.int x2), l3, l4] [] (mw_U s) else mj_exec X d 114 10 [some (.ref k0), some (.ref k1), some (.int x2), l3, l4] [] (mw_U s) := (mj_q_iload_n mw_m114 d114_4 rfl).trans ((mj_q_bipush mw_m114 d114_5 mw_k_bipush_28).trans (mj_q_icmp_lt mw_m114 d114_7 rfl))
theorem b114_10 {X : mj_X} {d : Nat} {s : mw_S} {k0 : Nat} {k1 : Nat} {x2 : Int32} {l3 : Option Value} {l4 : Option Value} (h0 : mw_cl k0 = some 6) (h1 : mw_cl k1 = some 3) : mj_exec X d 114 10 [some (.ref k0), some (.ref k1), some (.int x2), l3, l4] [] (mw_U s) = some (.inl none, mw_U s) := mj_q_vret mw_m114 d114_10 rfl
theorem b114_11 {X : mj_X} {d : Nat} {s : mw_S} {k0 : Nat} {k1 : Nat} {x2 : Int32} {l3 : Option Value} {l4 : Option Value} (h0 : mw_cl k0 = some 6) (h1 : mw_cl k1 = some 3) : mj_exec X (d + 1) 114 11 [some (.ref k0), some (.ref k1), some (.int x2), l3, l4] [] (mw_U s) = if mw_in 28 x2 = true then if mw_in 28 x2 = true then (mj_call X d 37 [.ref k1, .int x2] (mw_U s)).bind (mj_bk X (d + 1) 114 34 [some (.ref k0), some (.ref k1), some (.int x2), some (.int (mw_les (x2).toNatClampNeg)), some (.int (mw_gre (x2).toNatClampNeg))] [.int (nI 0), .ref (k0 + 2)]) else none else none := (mj_q_getsN mw_m114 d114_11 mw_p6_96).trans ((mj_q_iload_n mw_m114 d114_14 rfl).trans ((mw_h_iakd mw_m114 d114_15 (by decide) (mw_ka0 X)).trans (mw_g ((mj_q_istore_n mw_m114 d114_16 (Nat.le_of_ble_eq_true rfl) rfl rfl).trans ((mj_q_getsN mw_m114 d114_17 mw_p6_99).trans ((mj_q_iload_n mw_m114 d114_20 rfl).trans ((mw_h_iakd mw_m114 d114_21 (by decide) (mw_ka1 X)).trans (mw_g ((mj_q_istore mw_m114 d114_22 (Nat.le_of_ble_eq_true rfl) rfl rfl).trans ((mj_q_aload_n mw_m114 d114_24 rfl (mw_neo h0)).trans ((mw_q_getr mw_m114 d114_25 mw_p6_31 h0 (mw_f6_6 h0)).trans ((mj_q_iconst mw_m114 d114_28 mw_k_iconst_0).trans ((mj_q_aload_n mw_m114 d114_29 rfl (mw_neo h1)).trans ((mj_q_iload_n mw_m114 d114_30 rfl).trans (mw_q_callv mw_m114 rfl d114_31 mw_p6_102 mw_m37 rfl rfl (Nat.le_of_ble_eq_true rfl) (Nat.le_of_ble_eq_true rfl) rfl (mw_rcv h1) rfl rfl)))))))))))))))
theorem b114_34 {X : mj_X} {d : Nat} {s : mw_S} {k0 : Nat} {k1 : Nat} {x2 : Int32} {x3 : Int32} {x4 : Int32} {ks0 : Nat} {ns0 : Nat} {xs1 : Int32} {xs2 : Int32} (h0 : mw_cl k0 = some 6) (h1 : mw_cl k1 = some 3) (hs0 : mw_rw ks0 = some (.int, ns0)) : mj_exec X (d + 1) 114 34 [some (.ref k0), some (.ref k1), some (.int x2), some (.int x3), some (.int x4)] [.int xs2, .int xs1, .ref ks0] (mw_U s) = if mw_in ns0 xs1 = true then (mj_call X d 38 [.ref k1, .int x3] (mw_U (mw_p s ks0 (xs1).toNatClampNeg xs2))).bind (mj_bk X (d + 1) 114 45 [some (.ref k0), some (.ref k1), some (.int x2), some (.int x3), some (.int x4)] [.int (nI 1), .ref (k0 + 2)]) else none := (mw_h_iast mw_m114 d114_34 hs0).trans (mw_g ((mj_q_aload_n mw_m114 d114_35 rfl (mw_neo h0)).trans ((mw_q_getr mw_m114 d114_36 mw_p6_31 h0 (mw_f6_6 h0)).trans ((mj_q_iconst mw_m114 d114_39 mw_k_iconst_1).trans ((mj_q_aload_n mw_m114 d114_40 rfl (mw_neo h1)).trans ((mj_q_iload_n mw_m114 d114_41 rfl).trans (mw_q_callv mw_m114 rfl d114_42 mw_p6_106 mw_m38 rfl rfl (Nat.le_of_ble_eq_true rfl) (Nat.le_of_ble_eq_true rfl) rfl (mw_rcv h1) rfl rfl)))))))
theorem b114_45 {X : mj_X} {d : Nat} {s : mw_S} {k0 : Nat} {k1 : Nat} {x2 : Int32} {x3 : Int32} {x4 : Int32} {ks0 : Nat} {ns0 : Nat} {xs1 : Int32} {xs2 : Int32} (h0 : mw_cl k0 = some 6) (h1 : mw_cl k1 = some 3) (hs0 : mw_rw ks0 = some (.int, ns0)) : mj_exec X (d + 1) 114 45 [some (.ref k0), some (.ref k1), some (.int x2), some (.int x3), some (.int x4)] [.int xs2, .int xs1, .ref ks0] (mw_U s) = (mj_call X d 38 [.ref k1, .int x4] (mw_U s)).bind (mj_bk X (d + 1) 114 51 [some (.ref k0), some (.ref k1), some (.int x2), some (.int x3), some (.int x4)] [.int xs2, .int xs1, .ref ks0]) := (mj_q_aload_n mw_m114 d114_45 rfl (mw_neo h1)).trans ((mj_q_iload mw_m114 d114_46 rfl).trans (mw_q_callv mw_m114 rfl d114_48 mw_p6_106 mw_m38 rfl rfl (Nat.le_of_ble_eq_true rfl) (Nat.le_of_ble_eq_true rfl) rfl (mw_rcv h1) rfl rfl))
theorem b114_51 {X : mj_X} {d : Nat} {s : mw_S} {k0 : Nat} {k1 : Nat} {x2 : Int32} {x3 : Int32} {x4 : Int32} {ks0 : Nat} {ns0 : Nat} {xs1 : Int32} {xs2 : Int32} {xs3 : Int32} (h0 : mw_cl k0 = some 6) (h1 : mw_cl k1 = some 3) (hs0 : mw_rw ks0 = some (.int, ns0)) : mj_exec X (d + 1) 114 51 [some (.ref k0), some (.ref k1), some (.int x2), some (.int x3), some (.int x4)] [.int xs3, .int xs2, .int xs1, .ref ks0] (mw_U s) = if mw_in ns0 xs1 = true then (mj_call X d 38 [.ref k1, .int x3] (mw_U (mw_p s ks0 (xs1).toNatClampNeg (xs2 + xs3)))).bind (mj_bk X (d + 1) 114 63 [some (.ref k0), some (.ref k1), some (.int x2), some (.int x3), some (.int x4)] [.int (nI 2), .ref (k0 + 2)]) else none := (mj_q_iadd mw_m114 d114_51).trans ((mw_h_iast mw_m114 d114_52 hs0).trans (mw_g ((mj_q_aload_n mw_m114 d114_53 rfl (mw_neo h0)).trans ((mw_q_getr mw_m114 d114_54 mw_p6_31 h0 (mw_f6_6 h0)).trans ((mj_q_iconst mw_m114 d114_57 mw_k_iconst_2).trans ((mj_q_aload_n mw_m114 d114_58 rfl (mw_neo h1)).trans ((mj_q_iload_n mw_m114 d114_59 rfl).trans (mw_q_callv mw_m114 rfl d114_60 mw_p6_106 mw_m38 rfl rfl (Nat.le_of_ble_eq_true rfl) (Nat.le_of_ble_eq_true rfl) rfl (mw_rcv h1) rfl rfl))))))))
theorem b114_63 {X : mj_X} {d : Nat} {s : mw_S} {k0 : Nat} {k1 : Nat} {x2 : Int32} {x3 : Int32} {x4 : Int32} {ks0 : Nat} {ns0 : Nat} {xs1 : Int32} {xs2 : Int32} (h0 : mw_cl k0 = some 6) (h1 : mw_cl k1 = some 3) (hs0 : mw_rw ks0 = some (.int, ns0)) : mj_exec X (d + 1) 114 63 [some (.ref k0), some (.ref k1), some (.int x2), some (.int x3), some (.int x4)] [.int xs2, .int xs1, .ref ks0] (mw_U s) = (mj_call X d 38 [.ref k1, .int x4] (mw_U s)).bind (mj_bk X (d + 1) 114 69 [some (.ref k0), some (.ref k1), some (.int x2), some (.int x3), some (.int x4)] [.int xs2, .int xs1, .ref ks0]) := (mj_q_aload_n mw_m114 d114_63 rfl (mw_neo h1)).trans ((mj_q_iload mw_m114 d114_64 rfl).trans (mw_q_callv mw_m114 rfl d114_66 mw_p6_106 mw_m38 rfl rfl (Nat.le_of_ble_eq_true rfl) (Nat.le_of_ble_eq_true rfl) rfl (mw_rcv h1) rfl rfl))
theorem b114_69 {X : mj_X} {d : Nat} {s : mw_S} {k0 : Nat} {k1 : Nat} {x2 : Int32} {x3 : Int32} {x4 : Int32} {ks0 : Nat} {ns0 : Nat} {xs1 : Int32} {xs2 : Int32} {xs3 : Int32} (h0 : mw_cl k0 = some 6) (h1 : mw_cl k1 = some 3) (hs0 : mw_rw ks0 = some (.int, ns0)) : mj_exec X (d + 1) 114 69 [some (.ref k0), some (.ref k1), some (.int x2), some (.int x3), some (.int x4)] [.int xs3, .int xs2, .int xs1, .ref ks0] (mw_U s) = if mw_in ns0 xs1 = true then (mj_call X d 40 [.ref k1, .int x3] (mw_U (mw_p s ks0 (xs1).toNatClampNeg (mw_abs (xs2 - xs3))))).bind (mj_bk X (d + 1) 114 84 [some (.ref k0), some (.ref k1), some (.int x2), some (.int x3), some (.int x4)] [.int (nI 3), .ref (k0 + 2)]) else none := (mj_q_isub mw_m114 d114_69).trans ((mj_q_abs mw_m114 d114_70 mw_p6_109 (Nat.le_of_ble_eq_true rfl)).trans ((mw_h_iast mw_m114 d114_73 hs0).trans (mw_g ((mj_q_aload_n mw_m114 d114_74 rfl (mw_neo h0)).trans ((mw_q_getr mw_m114 d114_75 mw_p6_31 h0 (mw_f6_6 h0)).trans ((mj_q_iconst mw_m114 d114_78 mw_k_iconst_3).trans ((mj_q_aload_n mw_m114 d114_79 rfl (mw_neo h1)).trans ((mj_q_iload_n mw_m114 d114_80 rfl).trans (mw_q_callv mw_m114 rfl d114_81 mw_p6_112 mw_m40 rfl rfl (Nat.le_of_ble_eq_true rfl) (Nat.le_of_ble_eq_true rfl) rfl (mw_rcv h1) rfl rfl)))))))))
theorem b114_84 {X : mj_X} {d : Nat} {s : mw_S} {k0 : Nat} {k1 : Nat} {x2 : Int32} {x3 : Int32} {x4 : Int32} {ks0 : Nat} {ns0 : Nat} {xs1 : Int32} {xs2 : Int32} (h0 : mw_cl k0 = some 6) (h1 : mw_cl k1 = some 3) (hs0 : mw_rw ks0 = some (.int, ns0)) : mj_exec X (d + 1) 114 84 [some (.ref k0), some (.ref k1), some (.int x2), some (.int x3), some (.int x4)] [.int xs2, .int xs1, .ref ks0] (mw_U s) = (mj_call X d 348 [.int xs2] (mw_U s)).bind (mj_bk X (d + 1) 114 87 [some (.ref k0), some (.ref k1), some (.int x2), some (.int x3), some (.int x4)] [.int xs1, .ref ks0]) := mw_q_calls mw_m114 rfl d114_84 mw_p6_115 mw_m348 rfl (Nat.le_of_ble_eq_true rfl) (Nat.le_of_ble_eq_true rfl) rfl rfl
theorem b114_87 {X : mj_X} {d : Nat} {s : mw_S} {k0 : Nat} {k1 : Nat} {x2 : Int32} {x3 : Int32} {x4 : Int32} {ks0 : Nat} {ns0 : Nat} {xs1 : Int32} {xs2 : Int32} (h0 : mw_cl k0 = some 6) (h1 : mw_cl k1 = some 3) (hs0 : mw_rw ks0 = some (.int, ns0)) : mj_exec X (d + 1) 114 87 [some (.ref k0), some (.ref k1), some (.int x2), some (.int x3), some (.int x4)] [.int xs2, .int xs1, .ref ks0] (mw_U s) = (mj_call X d 40 [.ref k1, .int x4] (mw_U s)).bind (mj_bk X (d + 1) 114 93 [some (.ref k0), some (.ref k1), some (.int x2), some (.int x3), some (.int x4)] [.int xs2, .int xs1, .ref ks0]) := (mj_q_aload_n mw_m114 d114_87 rfl (mw_neo h1)).trans ((mj_q_iload mw_m114 d114_88 rfl).trans (mw_q_callv mw_m114 rfl d114_90 mw_p6_112 mw_m40 rfl rfl (Nat.le_of_ble_eq_true rfl) (Nat.le_of_ble_eq_true rfl) rfl (mw_rcv h1) rfl rfl))
theorem b114_93 {X : mj_X} {d : Nat} {s : mw_S} {k0 : Nat} {k1 : Nat} {x2 : Int32} {x3 : Int32} {x4 : Int32} {ks0 : Nat} {ns0 : Nat} {xs1 : Int32} {xs2 : Int32} {xs3 : Int32} (h0 : mw_cl k0 = some 6) (h1 : mw_cl k1 = some 3) (hs0 : mw_rw ks0 = some (.int, ns0)) : mj_exec X (d + 1) 114 93 [some (.ref k0), some (.ref k1), some (.int x2), some (.int x3), some (.int x4)] [.int xs3, .int xs2, .int xs1, .ref ks0] (mw_U s) = (mj_call X d 348 [.int xs3] (mw_U s)).bind (mj_bk X (d + 1) 114 96 [some (.ref k0), some (.ref k1), some (.int x2), some (.int x3), some (.int x4)] [.int xs2, .int xs1, .ref ks0]) := mw_q_calls mw_m114 rfl d114_93 mw_p6_115 mw_m348 rfl (Nat.le_of_ble_eq_true rfl) (Nat.le_of_ble_eq_true rfl) rfl rfl
theorem b114_96 {X : mj_X} {d : Nat} {s : mw_S} {k0 : Nat} {k1 : Nat} {x2 : Int32} {x3 : Int32} {x4 : Int32} {ks0 : Nat} {ns0 : Nat} {xs1 : Int32} {xs2 : Int32} {xs3 : Int32} (h0 : mw_cl k0 = some 6) (h1 : mw_cl k1 = some 3) (hs0 : mw_rw ks0 = some (.int, ns0)) : mj_exec X (d + 1) 114 96 [some (.ref k0), some (.ref k1), some (.int x2), some (.int x3), some (.int x4)] [.int xs3, .int xs2, .int xs1, .ref ks0] (mw_U s) = if mw_in ns0 xs1 = true then (mj_call X d 41 [.ref k1, .int x2] (mw_U (mw_p s ks0 (xs1).toNatClampNeg ((xs2 + xs3) - (nI 1))))).bind (mj_bk X (d + 1) 114 110 [some (.ref k0), some (.ref k1), some (.int x2), some (.int x3), some (.int x4)] [.int (nI 4), .ref (k0 + 2)]) else none := (mj_q_iadd mw_m114 d114_96).trans ((mj_q_iconst mw_m114 d114_97 mw_k_iconst_1).trans ((mj_q_isub mw_m114 d114_98).trans ((mw_h_iast mw_m114 d114_99 hs0).trans (mw_g ((mj_q_aload_n mw_m114 d114_100 rfl (mw_neo h0)).trans ((mw_q_getr mw_m114 d114_101 mw_p6_31 h0 (mw_f6_6 h0)).trans ((mj_q_iconst mw_m114 d114_104 mw_k_iconst_4).trans ((mj_q_aload_n mw_m114 d114_105 rfl (mw_neo h1)).trans ((mj_q_iload_n mw_m114 d114_106 rfl).trans (mw_q_callv mw_m114 rfl d114_107 mw_p6_120 mw_m41 rfl rfl (Nat.le_of_ble_eq_true rfl) (Nat.le_of_ble_eq_true rfl) rfl (mw_rcv h1) rfl rfl))))))))))
theorem b114_110 {X : mj_X} {d : Nat} {s : mw_S} {k0 : Nat} {k1 : Nat} {x2 : Int32} {x3 : Int32} {x4 : Int32} {ks0 : Nat} {ns0 : Nat} {xs1 : Int32} {xs2 : Int32} (h0 : mw_cl k0 = some 6) (h1 : mw_cl k1 = some 3) (hs0 : mw_rw ks0 = some (.int, ns0)) : mj_exec X (d + 1) 114 110 [some (.ref k0), some (.ref k1), some (.int x2), some (.int x3), some (.int x4)] [.int xs2, .int xs1, .ref ks0] (mw_U s) = if mw_in ns0 xs1 = true then (mj_call X d 34 [.ref k1] (mw_U (mw_p s ks0 (xs1).toNatClampNeg xs2))).bind (mj_bk X (d + 1) 114 120 [some (.ref k0), some (.ref k1), some (.int x2), some (.int x3), some (.int x4)] [.int (nI 5), .ref (k0 + 2)]) else none := (mw_h_iast mw_m114 d114_110 hs0).trans (mw_g ((mj_q_aload_n mw_m114 d114_111 rfl (mw_neo h0)).trans ((mw_q_getr mw_m114 d114_112 mw_p6_31 h0 (mw_f6_6 h0)).trans ((mj_q_iconst mw_m114 d114_115 mw_k_iconst_5).trans ((mj_q_aload_n mw_m114 d114_116 rfl (mw_neo h1)).trans (mw_q_callv mw_m114 rfl d114_117 mw_p6_123 mw_m34 rfl rfl (Nat.le_of_ble_eq_true rfl) (Nat.le_of_ble_eq_true rfl) rfl (mw_rcv h1) rfl rfl))))))
theorem b114_120 {X : mj_X} {d : Nat} {s : mw_S} {k0 : Nat} {k1 : Nat} {x2 : Int32} {x3 : Int32} {x4 : Int32} {ks0 : Nat} {ns0 : Nat} {xs1 : Int32} {xs2 : Int32} (h0 : mw_cl k0 = some 6) (h1 : mw_cl k1 = some 3) (hs0 : mw_rw ks0 = some (.int, ns0)) : mj_exec X d 114 120 [some (.ref k0), some (.ref k1), some (.int x2), some (.int x3), some (.int x4)] [.int xs2, .int xs1, .ref ks0] (mw_U s) = if mw_in ns0 xs1 = true then some (.inl none, mw_U (mw_p s ks0 (xs1).toNatClampNeg xs2)) else none := (mw_h_iast mw_m114 d114_120 hs0).trans (mw_g (mj_q_vret mw_m114 d114_121 rfl))
/-- WivesQuarrels$Rules.change -/
theorem d115_0 : decode prog_9_method_14_code 0 = .ok (.aload_n 0, 1) := by decide +kernel
theorem d115_1 : decode prog_9_method_14_code 1 = .ok (.invokevirtual 84, 3) := by decide +kernel
theorem d115_4 : decode prog_9_method_14_code 4 = .ok (.ifCond .ne 20, 3) := by decide +kernel
theorem d115_7 : decode prog_9_method_14_code 7 = .ok (.aload_n 0, 1) := by decide +kernel
theorem d115_8 : decode prog_9_method_14_code 8 = .ok (.getfield 31, 3) := by decide +kernel
theorem d115_11 : decode prog_9_method_14_code 11 = .ok (.iconst 1, 1) := by decide +kernel
theorem d115_12 : decode prog_9_method_14_code 12 = .ok (.iaload, 1) := by decide +kernel
theorem d115_13 : decode prog_9_method_14_code 13 = .ok (.bipush 9, 2) := by decide +kernel
theorem d115_15 : decode prog_9_method_14_code 15 = .ok (.if_icmp .le 7, 3) := by decide +kernel
theorem d115_18 : decode prog_9_method_14_code 18 = .ok (.iconst 1, 1) := by decide +kernel
theorem d115_19 : decode prog_9_method_14_code 19 = .ok (.goto 4, 3) := by decide +kernel
theorem d115_22 : decode prog_9_method_14_code 22 = .ok (.iconst (-1), 1) := by decide +kernel
theorem d115_23 : decode prog_9_method_14_code 23 = .ok (.ireturn, 1) := by decide +kernel
theorem d115_24 : decode prog_9_method_14_code 24 = .ok (.bipush (-9), 2) := by decide +kernel
theorem d115_26 : decode prog_9_method_14_code 26 = .ok (.bipush 9, 2) := by decide +kernel
theorem d115_28 : decode prog_9_method_14_code 28 = .ok (.aload_n 0, 1) := by decide +kernel
theorem d115_29 : decode prog_9_method_14_code 29 = .ok (.aload_n 0, 1) := by decide +kernel
theorem d115_30 : decode prog_9_method_14_code 30 = .ok (.getfield 19, 3) := by decide +kernel
theorem d115_33 : decode prog_9_method_14_code 33 = .ok (.aload_n 0, 1) := by decide +kernel
theorem d115_34 : decode prog_9_method_14_code 34 = .ok (.getfield 22, 3) := by decide +kernel
theorem d115_37 : decode prog_9_method_14_code 37 = .ok (.invokevirtual 87, 3) := by decide +kernel
theorem d115_40 : decode prog_9_method_14_code 40 = .ok (.invokestatic 63, 3) := by decide +kernel
theorem d115_43 : decode prog_9_method_14_code 43 = .ok (.invokestatic 90, 3) := by decide +kernel
theorem d115_46 : decode prog_9_method_14_code 46 = .ok (.ireturn, 1) := by decide +kernel
theorem b115 {X : mj_X} {d : Nat} {w : mj_W} {x0 : Nat} : mj_call X d 115 [.ref x0] w = mj_exec X d 115 0 [some (.ref x0)] [] w := mw_ent mw_m115 (Nat.le_of_ble_eq_true rfl) rfl
theorem b115_0 {X : mj_X} {d : Nat} {s : mw_S} {k0 : Nat} (h0 : mw_cl k0 = some 6) : mj_exec X (d + 1) 115 0 [some (.ref k0)] [] (mw_U s) = (mj_call X d 116 [.ref k0] (mw_U s)).bind (mj_bk X (d + 1) 115 4 [some (.ref k0)] []) := (mj_q_aload_n mw_m115 d115_0 rfl (mw_neo h0)).trans (mw_q_callv mw_m115 rfl d115_1 mw_p6_84 mw_m116 rfl rfl (Nat.le_of_ble_eq_true rfl) (Nat.le_of_ble_eq_true rfl) rfl (mw_rcv h0) rfl rfl)
theorem b115_4 {X : mj_X} {d : Nat} {s : mw_S} {k0 : Nat} {xs0 : Int32} (h0 : mw_cl k0 = some 6) : mj_exec X d 115 4 [some (.ref k0)] [.int xs0] (mw_U s) = if xs0 = 0 then mj_exec X d 115 7 [some (.ref k0)] [] (mw_U s) else mj_exec X d 115 24 [some (.ref k0)] [] (mw_U s) := mj_q_if_ne mw_m115 d115_4 rfl
theorem b115_7 {X : mj_X} {d : Nat} {s : mw_S} {k0 : Nat} (h0 : mw_cl k0 = some 6) : mj_exec X d 115 7 [some (.ref k0)] [] (mw_U s) = if mw_in 6 (nI 1) = true then if (s.1 (k0 + 2) ((nI 1)).toNatClampNeg) ≤ (nI 9) then mj_exec X d 115 22 [some (.ref k0)] [] (mw_U s) else mj_exec X d 115 18 [some (.ref k0)] [] (mw_U s) else none := (mj_q_aload_n mw_m115 d115_7 rfl (mw_neo h0)).trans ((mw_q_getr mw_m115 d115_8 mw_p6_31 h0 (mw_f6_6 h0)).trans ((mj_q_iconst mw_m115 d115_11 mw_k_iconst_1).trans ((mw_h_iald mw_m115 d115_12 (mw_a6_6 h0)).trans (mw_g ((mj_q_bipush mw_m115 d115_13 mw_k_bipush_9).trans (mj_q_icmp_le mw_m115 d115_15 rfl))))))
theorem b115_18 {X : mj_X} {d : Nat} {s : mw_S} {k0 : Nat} (h0 : mw_cl k0 = some 6) : mj_exec X d 115 18 [some (.ref k0)] [] (mw_U s) = mj_exec X d 115 23 [some (.ref k0)] [.int (nI 1)] (mw_U s) := (mj_q_iconst mw_m115 d115_18 mw_k_iconst_1).trans (mj_q_goto mw_m115 d115_19 rfl)
theorem b115_22 {X : mj_X} {d : Nat} {s : mw_S} {k0 : Nat} (h0 : mw_cl k0 = some 6) : mj_exec X d 115 22 [some (.ref k0)] [] (mw_U s) = mj_exec X d 115 23 [some (.ref k0)] [.int (-1)] (mw_U s) := mj_q_iconst mw_m115 d115_22 mw_k_iconst_m1
theorem b115_23 {X : mj_X} {d : Nat} {s : mw_S} {k0 : Nat} {xs0 : Int32} (h0 : mw_cl k0 = some 6) : mj_exec X d 115 23 [some (.ref k0)] [.int xs0] (mw_U s) = some (.inl (some (.int xs0)), mw_U s) := mj_q_iret mw_m115 d115_23 rfl
theorem b115_24 {X : mj_X} {d : Nat} {s : mw_S} {k0 : Nat} (h0 : mw_cl k0 = some 6) : mj_exec X (d + 1) 115 24 [some (.ref k0)] [] (mw_U s) = (mj_call X d 117 [.ref k0, .int (s.1 k0 2), .int (s.1 k0 3)] (mw_U s)).bind (mj_bk X (d + 1) 115 40 [some (.ref k0)] [.int (nI 9), .int (-9)]) := (mj_q_bipush mw_m115 d115_24 mw_k_bipush_m9).trans ((mj_q_bipush mw_m115 d115_26 mw_k_bipush_9).trans ((mj_q_aload_n mw_m115 d115_28 rfl (mw_neo h0)).trans ((mj_q_aload_n mw_m115 d115_29 rfl (mw_neo h0)).trans ((mw_q_geti mw_m115 d115_30 mw_p6_19 h0 (mw_f6_2 h0)).trans ((mj_q_aload_n mw_m115 d115_33 rfl (mw_neo h0)).trans ((mw_q_geti mw_m115 d115_34 mw_p6_22 h0 (mw_f6_3 h0)).trans (mw_q_callv mw_m115 rfl d115_37 mw_p6_87 mw_m117 rfl rfl (Nat.le_of_ble_eq_true rfl) (Nat.le_of_ble_eq_true rfl) rfl (mw_rcv h0) rfl rfl)))))))
theorem b115_40 {X : mj_X} {d : Nat} {s : mw_S} {k0 : Nat} {xs0 : Int32} {xs1 : Int32} {xs2 : Int32} (h0 : mw_cl k0 = some 6) : mj_exec X d 115 40 [some (.ref k0)] [.int xs2, .int xs1, .int xs0] (mw_U s) = some (.inl (some (.int (mw_max xs0 (mw_min xs1 xs2)))), mw_U s) := (mj_q_min mw_m115 d115_40 mw_p6_63 (Nat.le_of_ble_eq_true rfl)).trans ((mj_q_max mw_m115 d115_43 mw_p6_90 (Nat.le_of_ble_eq_true rfl)).trans (mj_q_iret mw_m115 d115_46 rfl))
/-- WivesQuarrels$Rules.hasHeats -/
theorem d116_0 : decode prog_9_method_4_code 0 = .ok (.aload_n 0, 1) := by decide +kernel
theorem d116_1 : decode prog_9_method_4_code 1 = .ok (.getfield 19, 3) := by decide +kernel
theorem d116_4 : decode prog_9_method_4_code 4 = .ok (.iconst (-1), 1) := by decide +kernel
theorem d116_5 : decode prog_9_method_4_code 5 = .ok (.if_icmp .eq 7, 3) := by decide +kernel
theorem d116_8 : decode prog_9_method_4_code 8 = .ok (.iconst 1, 1) := by decide +kernel
theorem d116_9 : decode prog_9_method_4_code 9 = .ok (.goto 4, 3) := by decide +kernel
theorem d116_12 : decode prog_9_method_4_code 12 = .ok (.iconst 0, 1) := by decide +kernel
theorem d116_13 : decode prog_9_method_4_code 13 = .ok (.ireturn, 1) := by decide +kernel
theorem b116 {X : mj_X} {d : Nat} {w : mj_W} {x0 : Nat} : mj_call X d 116 [.ref x0] w = mj_exec X d 116 0 [some (.ref x0)] [] w := mw_ent mw_m116 (Nat.le_of_ble_eq_true rfl) rfl
theorem b116_0 {X : mj_X} {d : Nat} {s : mw_S} {k0 : Nat} (h0 : mw_cl k0 = some 6) : mj_exec X d 116 0 [some (.ref k0)] [] (mw_U s) = if (s.1 k0 2) = (-1) then mj_exec X d 116 12 [some (.ref k0)] [] (mw_U s) else mj_exec X d 116 8 [some (.ref k0)] [] (mw_U s) := (mj_q_aload_n mw_m116 d116_0 rfl (mw_neo h0)).trans ((mw_q_geti mw_m116 d116_1 mw_p6_19 h0 (mw_f6_2 h0)).trans ((mj_q_iconst mw_m116 d116_4 mw_k_iconst_m1).trans (mj_q_icmp_eq mw_m116 d116_5 rfl)))
theorem b116_8 {X : mj_X} {d : Nat} {s : mw_S} {k0 : Nat} (h0 : mw_cl k0 = some 6) : mj_exec X d 116 8 [some (.ref k0)] [] (mw_U s) = mj_exec X d 116 13 [some (.ref k0)] [.int (nI 1)] (mw_U s) := (mj_q_iconst mw_m116 d116_8 mw_k_iconst_1).trans (mj_q_goto mw_m116 d116_9 rfl)
theorem b116_12 {X : mj_X} {d : Nat} {s : mw_S} {k0 : Nat} (h0 : mw_cl k0 = some 6) : mj_exec X d 116 12 [some (.ref k0)] [] (mw_U s) = mj_exec X d 116 13 [some (.ref k0)] [.int (nI 0)] (mw_U s) := mj_q_iconst mw_m116 d116_12 mw_k_iconst_0
theorem b116_13 {X : mj_X} {d : Nat} {s : mw_S} {k0 : Nat} {xs0 : Int32} (h0 : mw_cl k0 = some 6) : mj_exec X d 116 13 [some (.ref k0)] [.int xs0] (mw_U s) = if mj_rfit (some .boolean) xs0 = true then some (.inl (some (.int xs0)), mw_U s) else none := mw_h_iret mw_m116 d116_13 rfl
/-- WivesQuarrels$Rules.worth -/
theorem d117_0 : decode prog_9_method_17_code 0 = .ok (.iconst 0, 1) := by decide +kernel
theorem d117_1 : decode prog_9_method_17_code 1 = .ok (.istore_n 3, 1) := by decide +kernel
theorem d117_2 : decode prog_9_method_17_code 2 = .ok (.iconst 0, 1) := by decide +kernel
theorem d117_3 : decode prog_9_method_17_code 3 = .ok (.iload_n 1, 1) := by decide +kernel
theorem d117_4 : decode prog_9_method_17_code 4 = .ok (.invokestatic 90, 3) := by decide +kernel
theorem d117_7 : decode prog_9_method_17_code 7 = .ok (.istore 4, 2) := by decide +kernel
theorem d117_9 : decode prog_9_method_17_code 9 = .ok (.iload 4, 2) := by decide +kernel
theorem d117_11 : decode prog_9_method_17_code 11 = .ok (.iload_n 2, 1) := by decide +kernel
theorem d117_12 : decode prog_9_method_17_code 12 = .ok (.if_icmp .ge 144, 3) := by decide +kernel
theorem d117_15 : decode prog_9_method_17_code 15 = .ok (.iload 4, 2) := by decide +kernel
theorem d117_17 : decode prog_9_method_17_code 17 = .ok (.sipush 700, 3) := by decide +kernel
theorem d117_20 : decode prog_9_method_17_code 20 = .ok (.if_icmp .ge 136, 3) := by decide +kernel
theorem d117_23 : decode prog_9_method_17_code 23 = .ok (.aload_n 0, 1) := by decide +kernel
theorem d117_24 : decode prog_9_method_17_code 24 = .ok (.getfield 9, 3) := by decide +kernel
theorem d117_27 : decode prog_9_method_17_code 27 = .ok (.iload 4, 2) := by decide +kernel
theorem d117_29 : decode prog_9_method_17_code 29 = .ok (.iaload, 1) := by decide +kernel
theorem d117_30 : decode prog_9_method_17_code 30 = .ok (.istore 5, 2) := by decide +kernel
theorem d117_32 : decode prog_9_method_17_code 32 = .ok (.iload 5, 2) := by decide +kernel
theorem d117_34 : decode prog_9_method_17_code 34 = .ok (.bipush (-6), 2) := by decide +kernel
theorem d117_36 : decode prog_9_method_17_code 36 = .ok (.if_icmp .lt 41, 3) := by decide +kernel
theorem d117_39 : decode prog_9_method_17_code 39 = .ok (.iload_n 3, 1) := by decide +kernel
theorem d117_40 : decode prog_9_method_17_code 40 = .ok (.bipush 40, 2) := by decide +kernel
theorem d117_42 : decode prog_9_method_17_code 42 = .ok (.if_icmp .ge 108, 3) := by decide +kernel
theorem d117_45 : decode prog_9_method_17_code 45 = .ok (.aload_n 0, 1) := by decide +kernel
theorem d117_46 : decode prog_9_method_17_code 46 = .ok (.getfield 34, 3) := by decide +kernel
theorem d117_49 : decode prog_9_method_17_code 49 = .ok (.iload_n 3, 1) := by decide +kernel
theorem d117_50 : decode prog_9_method_17_code 50 = .ok (.iload 5, 2) := by decide +kernel
theorem d117_52 : decode prog_9_method_17_code 52 = .ok (.ifCond .lt 8, 3) := by decide +kernel
theorem d117_55 : decode prog_9_method_17_code 55 = .ok (.iload 5, 2) := by decide +kernel
theorem d117_57 : decode prog_9_method_17_code 57 = .ok (.goto 13, 3) := by decide +kernel
theorem d117_60 : decode prog_9_method_17_code 60 = .ok (.aload_n 0, 1) := by decide +kernel
theorem d117_61 : decode prog_9_method_17_code 61 = .ok (.getfield 31, 3) := by decide +kernel
theorem d117_64 : decode prog_9_method_17_code 64 = .ok (.iload 5, 2) := by decide +kernel
theorem d117_66 : decode prog_9_method_17_code 66 = .ok (.bipush 6, 2) := by decide +kernel
theorem d117_68 : decode prog_9_method_17_code 68 = .ok (.iadd, 1) := by decide +kernel
theorem d117_69 : decode prog_9_method_17_code 69 = .ok (.iaload, 1) := by decide +kernel
theorem d117_70 : decode prog_9_method_17_code 70 = .ok (.iastore, 1) := by decide +kernel
theorem d117_71 : decode prog_9_method_17_code 71 = .ok (.iinc 3 1, 3) := by decide +kernel
theorem d117_74 : decode prog_9_method_17_code 74 = .ok (.goto 76, 3) := by decide +kernel
theorem d117_77 : decode prog_9_method_17_code 77 = .ok (.iload 5, 2) := by decide +kernel
theorem d117_79 : decode prog_9_method_17_code 79 = .ok (.bipush (-7), 2) := by decide +kernel
theorem d117_81 : decode prog_9_method_17_code 81 = .ok (.if_icmp .ne 34, 3) := by decide +kernel
theorem d117_84 : decode prog_9_method_17_code 84 = .ok (.iload_n 3, 1) := by decide +kernel
theorem d117_85 : decode prog_9_method_17_code 85 = .ok (.ifCond .le 65, 3) := by decide +kernel
theorem d117_88 : decode prog_9_method_17_code 88 = .ok (.aload_n 0, 1) := by decide +kernel
theorem d117_89 : decode prog_9_method_17_code 89 = .ok (.getfield 34, 3) := by decide +kernel
theorem d117_92 : decode prog_9_method_17_code 92 = .ok (.iload_n 3, 1) := by decide +kernel
theorem d117_93 : decode prog_9_method_17_code 93 = .ok (.iconst 1, 1) := by decide +kernel
theorem d117_94 : decode prog_9_method_17_code 94 = .ok (.isub, 1) := by decide +kernel
theorem d117_95 : decode prog_9_method_17_code 95 = .ok (.aload_n 0, 1) := by decide +kernel
theorem d117_96 : decode prog_9_method_17_code 96 = .ok (.getfield 34, 3) := by decide +kernel
theorem d117_99 : decode prog_9_method_17_code 99 = .ok (.iload_n 3, 1) := by decide +kernel
theorem d117_100 : decode prog_9_method_17_code 100 = .ok (.iconst 1, 1) := by decide +kernel
theorem d117_101 : decode prog_9_method_17_code 101 = .ok (.isub, 1) := by decide +kernel
theorem d117_102 : decode prog_9_method_17_code 102 = .ok (.iaload, 1) := by decide +kernel
theorem d117_103 : decode prog_9_method_17_code 103 = .ok (.ifCond .ne 7, 3) := by decide +kernel
theorem d117_106 : decode prog_9_method_17_code 106 = .ok (.iconst 1, 1) := by decide +kernel
theorem d117_107 : decode prog_9_method_17_code 107 = .ok (.goto 4, 3) := by decide +kernel
theorem d117_110 : decode prog_9_method_17_code 110 = .ok (.iconst 0, 1) := by decide +kernel
theorem d117_111 : decode prog_9_method_17_code 111 = .ok (.iastore, 1) := by decide +kernel
theorem d117_112 : decode prog_9_method_17_code 112 = .ok (.goto 38, 3) := by decide +kernel
theorem d117_115 : decode prog_9_method_17_code 115 = .ok (.iload_n 3, 1) := by decide +kernel
theorem d117_116 : decode prog_9_method_17_code 116 = .ok (.iconst 1, 1) := by decide +kernel
theorem d117_117 : decode prog_9_method_17_code 117 = .ok (.if_icmp .le 33, 3) := by decide +kernel
theorem d117_120 : decode prog_9_method_17_code 120 = .ok (.iinc 3 (-1), 3) := by decide +kernel
theorem d117_123 : decode prog_9_method_17_code 123 = .ok (.aload_n 0, 1) := by decide +kernel
theorem d117_124 : decode prog_9_method_17_code 124 = .ok (.getfield 34, 3) := by decide +kernel
theorem d117_127 : decode prog_9_method_17_code 127 = .ok (.iload_n 3, 1) := by decide +kernel
theorem d117_128 : decode prog_9_method_17_code 128 = .ok (.iconst 1, 1) := by decide +kernel
theorem d117_129 : decode prog_9_method_17_code 129 = .ok (.isub, 1) := by decide +kernel
theorem d117_130 : decode prog_9_method_17_code 130 = .ok (.iload 5, 2) := by decide +kernel
theorem d117_132 : decode prog_9_method_17_code 132 = .ok (.aload_n 0, 1) := by decide +kernel
theorem d117_133 : decode prog_9_method_17_code 133 = .ok (.getfield 34, 3) := by decide +kernel
theorem d117_136 : decode prog_9_method_17_code 136 = .ok (.iload_n 3, 1) := by decide +kernel
theorem d117_137 : decode prog_9_method_17_code 137 = .ok (.iconst 1, 1) := by decide +kernel
theorem d117_138 : decode prog_9_method_17_code 138 = .ok (.isub, 1) := by decide +kernel
theorem d117_139 : decode prog_9_method_17_code 139 = .ok (.iaload, 1) := by decide +kernel
theorem d117_140 : decode prog_9_method_17_code 140 = .ok (.aload_n 0, 1) := by decide +kernel
theorem d117_141 : decode prog_9_method_17_code 141 = .ok (.getfield 34, 3) := by decide +kernel
theorem d117_144 : decode prog_9_method_17_code 144 = .ok (.iload_n 3, 1) := by decide +kernel
theorem d117_145 : decode prog_9_method_17_code 145 = .ok (.iaload, 1) := by decide +kernel
theorem d117_146 : decode prog_9_method_17_code 146 = .ok (.invokestatic 126, 3) := by decide +kernel
theorem d117_149 : decode prog_9_method_17_code 149 = .ok (.iastore, 1) := by decide +kernel
theorem d117_150 : decode prog_9_method_17_code 150 = .ok (.iinc 4 1, 3) := by decide +kernel
theorem d117_153 : decode prog_9_method_17_code 153 = .ok (.goto (-144), 3) := by decide +kernel
theorem d117_156 : decode prog_9_method_17_code 156 = .ok (.iload_n 3, 1) := by decide +kernel
theorem d117_157 : decode prog_9_method_17_code 157 = .ok (.ifCond .le 14, 3) := by decide +kernel
theorem d117_160 : decode prog_9_method_17_code 160 = .ok (.aload_n 0, 1) := by decide +kernel
theorem d117_161 : decode prog_9_method_17_code 161 = .ok (.getfield 34, 3) := by decide +kernel
theorem d117_164 : decode prog_9_method_17_code 164 = .ok (.iload_n 3, 1) := by decide +kernel
theorem d117_165 : decode prog_9_method_17_code 165 = .ok (.iconst 1, 1) := by decide +kernel
theorem d117_166 : decode prog_9_method_17_code 166 = .ok (.isub, 1) := by decide +kernel
theorem d117_167 : decode prog_9_method_17_code 167 = .ok (.iaload, 1) := by decide +kernel
theorem d117_168 : decode prog_9_method_17_code 168 = .ok (.goto 4, 3) := by decide +kernel
theorem d117_171 : decode prog_9_method_17_code 171 = .ok (.iconst 0, 1) := by decide +kernel
theorem d117_172 : decode prog_9_method_17_code 172 = .ok (.ireturn, 1) := by decide +kernel
theorem b117 {X : mj_X} {d : Nat} {w : mj_W} {x0 : Nat} {x1 : Int32} {x2 : Int32} : mj_call X d 117 [.ref x0, .int x1, .int x2] w = mj_exec X d 117 0 [some (.ref x0), some (.int x1), some (.int x2), none, none, none] [] w := mw_ent mw_m117 (Nat.le_of_ble_eq_true rfl) rfl
theorem b117_0 {X : mj_X} {d : Nat} {s : mw_S} {k0 : Nat} {x1 : Int32} {x2 : Int32} {l3 : Option Value} {l4 : Option Value} {l5 : Option Value} (h0 : mw_cl k0 = some 6) : mj_exec X d 117 0 [some (.ref k0), some (.int x1), some (.int x2), l3, l4, l5] [] (mw_U s) = mj_exec X d 117 9 [some (.ref k0), some (.int x1), some (.int x2), some (.int (nI 0)), some (.int (mw_max (nI 0) x1)), l5] [] (mw_U s) := (mj_q_iconst mw_m117 d117_0 mw_k_iconst_0).trans ((mj_q_istore_n mw_m117 d117_1 (Nat.le_of_ble_eq_true rfl) rfl rfl).trans ((mj_q_iconst mw_m117 d117_2 mw_k_iconst_0).trans ((mj_q_iload_n mw_m117 d117_3 rfl).trans ((mj_q_max mw_m117 d117_4 mw_p6_90 (Nat.le_of_ble_eq_true rfl)).trans (mj_q_istore mw_m117 d117_7 (Nat.le_of_ble_eq_true rfl) rfl rfl)))))
theorem b117_9 {X : mj_X} {d : Nat} {s : mw_S} {k0 : Nat} {x1 : Int32} {x2 : Int32} {x3 : Int32} {x4 : Int32} {l5 : Option Value} (h0 : mw_cl k0 = some 6) : mj_exec X d 117 9 [some (.ref k0), some (.int x1), some (.int x2), some (.int x3), some (.int x4), l5] [] (mw_U s) = if x2 ≤ x4 then mj_exec X d 117 156 [some (.ref k0), some (.int x1), some (.int x2), some (.int x3), some (.int x4), l5] [] (mw_U s) else mj_exec X d 117 15 [some (.ref k0), some (.int x1), some (.int x2), some (.int x3), some (.int x4), l5] [] (mw_U s) := (mj_q_iload mw_m117 d117_9 rfl).trans ((mj_q_iload_n mw_m117 d117_11 rfl).trans (mj_q_icmp_ge mw_m117 d117_12 rfl))
theorem b117_15 {X : mj_X} {d : Nat} {s : mw_S} {k0 : Nat} {x1 : Int32} {x2 : Int32} {x3 : Int32} {x4 : Int32} {l5 : Option Value} (h0 : mw_cl k0 = some 6) : mj_exec X d 117 15 [some (.ref k0), some (.int x1), some (.int x2), some (.int x3), some (.int x4), l5] [] (mw_U s) = if (nI 700) ≤ x4 then mj_exec X d 117 156 [some (.ref k0), some (.int x1), some (.int x2), some (.int x3), some (.int x4), l5] [] (mw_U s) else mj_exec X d 117 23 [some (.ref k0), some (.int x1), some (.int x2), some (.int x3), some (.int x4), l5] [] (mw_U s) := (mj_q_iload mw_m117 d117_15 rfl).trans ((mj_q_sipush mw_m117 d117_17 mw_k_sipush_700).trans (mj_q_icmp_ge mw_m117 d117_20 rfl))
theorem b117_23 {X : mj_X} {d : Nat} {s : mw_S} {k0 : Nat} {x1 : Int32} {x2 : Int32} {x3 : Int32} {x4 : Int32} {l5 : Option Value} (h0 : mw_cl k0 = some 6) : mj_exec X d 117 23 [some (.ref k0), some (.int x1), some (.int x2), some (.int x3), some (.int x4), l5] [] (mw_U s) = if mw_in 700 x4 = true then if (s.1 (k0 + 1) (x4).toNatClampNeg) < (-6) then mj_exec X d 117 77 [some (.ref k0), some (.int x1), some (.int x2), some (.int x3), some (.int x4), some (.int (s.1 (k0 + 1) (x4).toNatClampNeg))] [] (mw_U s) else mj_exec X d 117 39 [some (.ref k0), some (.int x1), some (.int x2), some (.int x3), some (.int x4), some (.int (s.1 (k0 + 1) (x4).toNatClampNeg))] [] (mw_U s) else none := (mj_q_aload_n mw_m117 d117_23 rfl (mw_neo h0)).trans ((mw_q_getr mw_m117 d117_24 mw_p6_9 h0 (mw_f6_0 h0)).trans ((mj_q_iload mw_m117 d117_27 rfl).trans ((mw_h_iald mw_m117 d117_29 (mw_a6_0 h0)).trans (mw_g ((mj_q_istore mw_m117 d117_30 (Nat.le_of_ble_eq_true rfl) rfl rfl).trans ((mj_q_iload mw_m117 d117_32 rfl).trans ((mj_q_bipush mw_m117 d117_34 mw_k_bipush_m6).trans (mj_q_icmp_lt mw_m117 d117_36 rfl))))))))
theorem b117_39 {X : mj_X} {d : Nat} {s : mw_S} {k0 : Nat} {x1 : Int32} {x2 : Int32} {x3 : Int32} {x4 : Int32} {x5 : Int32} (h0 : mw_cl k0 = some 6) : mj_exec X d 117 39 [some (.ref k0), some (.int x1), some (.int x2), some (.int x3), some (.int x4), some (.int x5)] [] (mw_U s) = if (nI 40) ≤ x3 then mj_exec X d 117 150 [some (.ref k0), some (.int x1), some (.int x2), some (.int x3), some (.int x4), some (.int x5)] [] (mw_U s) else mj_exec X d 117 45 [some (.ref k0), some (.int x1), some (.int x2), some (.int x3), some (.int x4), some (.int x5)] [] (mw_U s) := (mj_q_iload_n mw_m117 d117_39 rfl).trans ((mj_q_bipush mw_m117 d117_40 mw_k_bipush_40).trans (mj_q_icmp_ge mw_m117 d117_42 rfl))
theorem b117_45 {X : mj_X} {d : Nat} {s : mw_S} {k0 : Nat} {x1 : Int32} {x2 : Int32} {x3 : Int32} {x4 : Int32} {x5 : Int32} (h0 : mw_cl k0 = some 6) : mj_exec X d 117 45 [some (.ref k0), some (.int x1), some (.int x2), some (.int x3), some (.int x4), some (.int x5)] [] (mw_U s) = if x5 < 0 then mj_exec X d 117 60 [some (.ref k0), some (.int x1), some (.int x2), some (.int x3), some (.int x4), some (.int x5)] [.int x3, .ref (k0 + 3)] (mw_U s) else mj_exec X d 117 55 [some (.ref k0), some (.int x1), some (.int x2), some (.int x3), some (.int x4), some (.int x5)] [.int x3, .ref (k0 + 3)] (mw_U s) := (mj_q_aload_n mw_m117 d117_45 rfl (mw_neo h0)).trans ((mw_q_getr mw_m117 d117_46 mw_p6_34 h0 (mw_f6_7 h0)).trans ((mj_q_iload_n mw_m117 d117_49 rfl).trans ((mj_q_iload mw_m117 d117_50 rfl).trans (mj_q_if_lt mw_m117 d117_52 rfl))))
theorem b117_55 {X : mj_X} {d : Nat} {s : mw_S} {k0 : Nat} {x1 : Int32} {x2 : Int32} {x3 : Int32} {x4 : Int32} {x5 : Int32} {ks0 : Nat} {ns0 : Nat} {xs1 : Int32} (h0 : mw_cl k0 = some 6) (hs0 : mw_rw ks0 = some (.int, ns0)) : mj_exec X d 117 55 [some (.ref k0), some (.int x1), some (.int x2), some (.int x3), some (.int x4), some (.int x5)] [.int xs1, .ref ks0] (mw_U s) = mj_exec X d 117 70 [some (.ref k0), some (.int x1), some (.int x2), some (.int x3), some (.int x4), some (.int x5)] [.int x5, .int xs1, .ref ks0] (mw_U s) := (mj_q_iload mw_m117 d117_55 rfl).trans (mj_q_goto mw_m117 d117_57 rfl)
theorem b117_60 {X : mj_X} {d : Nat} {s : mw_S} {k0 : Nat} {x1 : Int32} {x2 : Int32} {x3 : Int32} {x4 : Int32} {x5 : Int32} {ks0 : Nat} {ns0 : Nat} {xs1 : Int32} (h0 : mw_cl k0 = some 6) (hs0 : mw_rw ks0 = some (.int, ns0)) : mj_exec X d 117 60 [some (.ref k0), some (.int x1), some (.int x2), some (.int x3), some (.int x4), some (.int x5)] [.int xs1, .ref ks0] (mw_U s) = if mw_in 6 (x5 + (nI 6)) = true then mj_exec X d 117 70 [some (.ref k0), some (.int x1), some (.int x2), some (.int x3), some (.int x4), some (.int x5)] [.int (s.1 (k0 + 2) ((x5 + (nI 6))).toNatClampNeg), .int xs1, .ref ks0] (mw_U s) else none := (mj_q_aload_n mw_m117 d117_60 rfl (mw_neo h0)).trans ((mw_q_getr mw_m117 d117_61 mw_p6_31 h0 (mw_f6_6 h0)).trans ((mj_q_iload mw_m117 d117_64 rfl).trans ((mj_q_bipush mw_m117 d117_66 mw_k_bipush_6).trans ((mj_q_iadd mw_m117 d117_68).trans ((mw_h_iald mw_m117 d117_69 (mw_a6_6 h0)).trans (mw_g (rfl)))))))
theorem b117_70 {X : mj_X} {d : Nat} {s : mw_S} {k0 : Nat} {x1 : Int32} {x2 : Int32} {x3 : Int32} {x4 : Int32} {x5 : Int32} {ks0 : Nat} {ns0 : Nat} {xs1 : Int32} {xs2 : Int32} (h0 : mw_cl k0 = some 6) (hs0 : mw_rw ks0 = some (.int, ns0)) : mj_exec X d 117 70 [some (.ref k0), some (.int x1), some (.int x2), some (.int x3), some (.int x4), some (.int x5)] [.int xs2, .int xs1, .ref ks0] (mw_U s) = if mw_in ns0 xs1 = true then mj_exec X d 117 150 [some (.ref k0), some (.int x1), some (.int x2), some (.int (x3 + (nI 1))), some (.int x4), some (.int x5)] [] (mw_U (mw_p s ks0 (xs1).toNatClampNeg xs2)) else none := (mw_h_iast mw_m117 d117_70 hs0).trans (mw_g ((mj_q_iinc mw_m117 d117_71 rfl (Nat.le_of_ble_eq_true rfl) rfl mw_k_iconst_1 rfl).trans (mj_q_goto mw_m117 d117_74 rfl)))
theorem b117_77 {X : mj_X} {d : Nat} {s : mw_S} {k0 : Nat} {x1 : Int32} {x2 : Int32} {x3 : Int32} {x4 : Int32} {x5 : Int32} (h0 : mw_cl k0 = some 6) : mj_exec X d 117 77 [some (.ref k0), some (.int x1), some (.int x2), some (.int x3), some (.int x4), some (.int x5)] [] (mw_U s) = if x5 = (-7) then mj_exec X d 117 84 [some (.ref k0), some (.int x1), some (.int x2), some (.int x3), some (.int x4), some (.int x5)] [] (mw_U s) else mj_exec X d 117 115 [some (.ref k0), some (.int x1), some (.int x2), some (.int x3), some (.int x4), some (.int x5)] [] (mw_U s) := (mj_q_iload mw_m117 d117_77 rfl).trans ((mj_q_bipush mw_m117 d117_79 mw_k_bipush_m7).trans (mj_q_icmp_ne mw_m117 d117_81 rfl))
theorem b117_84 {X : mj_X} {d : Nat} {s : mw_S} {k0 : Nat} {x1 : Int32} {x2 : Int32} {x3 : Int32} {x4 : Int32} {x5 : Int32} (h0 : mw_cl k0 = some 6) : mj_exec X d 117 84 [some (.ref k0), some (.int x1), some (.int x2), some (.int x3), some (.int x4), some (.int x5)] [] (mw_U s) = if x3 ≤ 0 then mj_exec X d 117 150 [some (.ref k0), some (.int x1), some (.int x2), some (.int x3), some (.int x4), some (.int x5)] [] (mw_U s) else mj_exec X d 117 88 [some (.ref k0), some (.int x1), some (.int x2), some (.int x3), some (.int x4), some (.int x5)] [] (mw_U s) := (mj_q_iload_n mw_m117 d117_84 rfl).trans (mj_q_if_le mw_m117 d117_85 rfl)
theorem b117_88 {X : mj_X} {d : Nat} {s : mw_S} {k0 : Nat} {x1 : Int32} {x2 : Int32} {x3 : Int32} {x4 : Int32} {x5 : Int32} (h0 : mw_cl k0 = some 6) : mj_exec X d 117 88 [some (.ref k0), some (.int x1), some (.int x2), some (.int x3), some (.int x4), some (.int x5)] [] (mw_U s) = if mw_in 40 (x3 - (nI 1)) = true then if (s.1 (k0 + 3) ((x3 - (nI 1))).toNatClampNeg) = 0 then mj_exec X d 117 106 [some (.ref k0), some (.int x1), some (.int x2), some (.int x3), some (.int x4), some (.int x5)] [.int (x3 - (nI 1)), .ref (k0 + 3)] (mw_U s) else mj_exec X d 117 110 [some (.ref k0), some (.int x1), some (.int x2), some (.int x3), some (.int x4), some (.int x5)] [.int (x3 - (nI 1)), .ref (k0 + 3)] (mw_U s) else none := (mj_q_aload_n mw_m117 d117_88 rfl (mw_neo h0)).trans ((mw_q_getr mw_m117 d117_89 mw_p6_34 h0 (mw_f6_7 h0)).trans ((mj_q_iload_n mw_m117 d117_92 rfl).trans ((mj_q_iconst mw_m117 d117_93 mw_k_iconst_1).trans ((mj_q_isub mw_m117 d117_94).trans ((mj_q_aload_n mw_m117 d117_95 rfl (mw_neo h0)).trans ((mw_q_getr mw_m117 d117_96 mw_p6_34 h0 (mw_f6_7 h0)).trans ((mj_q_iload_n mw_m117 d117_99 rfl).trans ((mj_q_iconst mw_m117 d117_100 mw_k_iconst_1).trans ((mj_q_isub mw_m117 d117_101).trans ((mw_h_iald mw_m117 d117_102 (mw_a6_7 h0)).trans (mw_g (mj_q_if_ne mw_m117 d117_103 rfl))))))))))))
theorem b117_106 {X : mj_X} {d : Nat} {s : mw_S} {k0 : Nat} {x1 : Int32} {x2 : Int32} {x3 : Int32} {x4 : Int32} {x5 : Int32} {ks0 : Nat} {ns0 : Nat} {xs1 : Int32} (h0 : mw_cl k0 = some 6) (hs0 : mw_rw ks0 = some (.int, ns0)) : mj_exec X d 117 106 [some (.ref k0), some (.int x1), some (.int x2), some (.int x3), some (.int x4), some (.int x5)] [.int xs1, .ref ks0] (mw_U s) = mj_exec X d 117 111 [some (.ref k0), some (.int x1), some (.int x2), some (.int x3), some (.int x4), some (.int x5)] [.int (nI 1), .int xs1, .ref ks0] (mw_U s) := (mj_q_iconst mw_m117 d117_106 mw_k_iconst_1).trans (mj_q_goto mw_m117 d117_107 rfl)
theorem b117_110 {X : mj_X} {d : Nat} {s : mw_S} {k0 : Nat} {x1 : Int32} {x2 : Int32} {x3 : Int32} {x4 : Int32} {x5 : Int32} {ks0 : Nat} {ns0 : Nat} {xs1 : Int32} (h0 : mw_cl k0 = some 6) (hs0 : mw_rw ks0 = some (.int, ns0)) : mj_exec X d 117 110 [some (.ref k0), some (.int x1), some (.int x2), some (.int x3), some (.int x4), some (.int x5)] [.int xs1, .ref ks0] (mw_U s) = mj_exec X d 117 111 [some (.ref k0), some (.int x1), some (.int x2), some (.int x3), some (.int x4), some (.int x5)] [.int (nI 0), .int xs1, .ref ks0] (mw_U s) := mj_q_iconst mw_m117 d117_110 mw_k_iconst_0
theorem b117_111 {X : mj_X} {d : Nat} {s : mw_S} {k0 : Nat} {x1 : Int32} {x2 : Int32} {x3 : Int32} {x4 : Int32} {x5 : Int32} {ks0 : Nat} {ns0 : Nat} {xs1 : Int32} {xs2 : Int32} (h0 : mw_cl k0 = some 6) (hs0 : mw_rw ks0 = some (.int, ns0)) : mj_exec X d 117 111 [some (.ref k0), some (.int x1), some (.int x2), some (.int x3), some (.int x4), some (.int x5)] [.int xs2, .int xs1, .ref ks0] (mw_U s) = if mw_in ns0 xs1 = true then mj_exec X d 117 150 [some (.ref k0), some (.int x1), some (.int x2), some (.int x3), some (.int x4), some (.int x5)] [] (mw_U (mw_p s ks0 (xs1).toNatClampNeg xs2)) else none := (mw_h_iast mw_m117 d117_111 hs0).trans (mw_g (mj_q_goto mw_m117 d117_112 rfl))
theorem b117_115 {X : mj_X} {d : Nat} {s : mw_S} {k0 : Nat} {x1 : Int32} {x2 : Int32} {x3 : Int32} {x4 : Int32} {x5 : Int32} (h0 : mw_cl k0 = some 6) : mj_exec X d 117 115 [some (.ref k0), some (.int x1), some (.int x2), some (.int x3), some (.int x4), some (.int x5)] [] (mw_U s) = if x3 ≤ (nI 1) then mj_exec X d 117 150 [some (.ref k0), some (.int x1), some (.int x2), some (.int x3), some (.int x4), some (.int x5)] [] (mw_U s) else mj_exec X d 117 120 [some (.ref k0), some (.int x1), some (.int x2), some (.int x3), some (.int x4), some (.int x5)] [] (mw_U s) := (mj_q_iload_n mw_m117 d117_115 rfl).trans ((mj_q_iconst mw_m117 d117_116 mw_k_iconst_1).trans (mj_q_icmp_le mw_m117 d117_117 rfl))
theorem b117_120 {X : mj_X} {d : Nat} {s : mw_S} {k0 : Nat} {x1 : Int32} {x2 : Int32} {x3 : Int32} {x4 : Int32} {x5 : Int32} (h0 : mw_cl k0 = some 6) : mj_exec X (d + 1) 117 120 [some (.ref k0), some (.int x1), some (.int x2), some (.int x3), some (.int x4), some (.int x5)] [] (mw_U s) = if mw_in 40 ((x3 + (-1)) - (nI 1)) = true then if mw_in 40 (x3 + (-1)) = true then (mj_call X d 118 [.int x5, .int (s.1 (k0 + 3) (((x3 + (-1)) - (nI 1))).toNatClampNeg), .int (s.1 (k0 + 3) ((x3 + (-1))).toNatClampNeg)] (mw_U s)).bind (mj_bk X (d + 1) 117 149 [some (.ref k0), some (.int x1), some (.int x2), some (.int (x3 + (-1))), some (.int x4), some (.int x5)] [.int ((x3 + (-1)) - (nI 1)), .ref (k0 + 3)]) else none else none := (mj_q_iinc mw_m117 d117_120 rfl (Nat.le_of_ble_eq_true rfl) rfl mw_k_iconst_m1 rfl).trans ((mj_q_aload_n mw_m117 d117_123 rfl (mw_neo h0)).trans ((mw_q_getr mw_m117 d117_124 mw_p6_34 h0 (mw_f6_7 h0)).trans ((mj_q_iload_n mw_m117 d117_127 rfl).trans ((mj_q_iconst mw_m117 d117_128 mw_k_iconst_1).trans ((mj_q_isub mw_m117 d117_129).trans ((mj_q_iload mw_m117 d117_130 rfl).trans ((mj_q_aload_n mw_m117 d117_132 rfl (mw_neo h0)).trans ((mw_q_getr mw_m117 d117_133 mw_p6_34 h0 (mw_f6_7 h0)).trans ((mj_q_iload_n mw_m117 d117_136 rfl).trans ((mj_q_iconst mw_m117 d117_137 mw_k_iconst_1).trans ((mj_q_isub mw_m117 d117_138).trans ((mw_h_iald mw_m117 d117_139 (mw_a6_7 h0)).trans (mw_g ((mj_q_aload_n mw_m117 d117_140 rfl (mw_neo h0)).trans ((mw_q_getr mw_m117 d117_141 mw_p6_34 h0 (mw_f6_7 h0)).trans ((mj_q_iload_n mw_m117 d117_144 rfl).trans ((mw_h_iald mw_m117 d117_145 (mw_a6_7 h0)).trans (mw_g (mw_q_calls mw_m117 rfl d117_146 mw_p6_126 mw_m118 rfl (Nat.le_of_ble_eq_true rfl) (Nat.le_of_ble_eq_true rfl) rfl rfl)))))))))))))))))))
theorem b117_149 {X : mj_X} {d : Nat} {s : mw_S} {k0 : Nat} {x1 : Int32} {x2 : Int32} {x3 : Int32} {x4 : Int32} {x5 : Int32} {ks0 : Nat} {ns0 : Nat} {xs1 : Int32} {xs2 : Int32} (h0 : mw_cl k0 = some 6) (hs0 : mw_rw ks0 = some (.int, ns0)) : mj_exec X d 117 149 [some (.ref k0), some (.int x1), some (.int x2), some (.int x3), some (.int x4), some (.int x5)] [.int xs2, .int xs1, .ref ks0] (mw_U s) = if mw_in ns0 xs1 = true then mj_exec X d 117 150 [some (.ref k0), some (.int x1), some (.int x2), some (.int x3), some (.int x4), some (.int x5)] [] (mw_U (mw_p s ks0 (xs1).toNatClampNeg xs2)) else none := (mw_h_iast mw_m117 d117_149 hs0).trans (mw_g (rfl))
theorem b117_150 {X : mj_X} {d : Nat} {s : mw_S} {k0 : Nat} {x1 : Int32} {x2 : Int32} {x3 : Int32} {x4 : Int32} {x5 : Int32} (h0 : mw_cl k0 = some 6) : mj_exec X d 117 150 [some (.ref k0), some (.int x1), some (.int x2), some (.int x3), some (.int x4), some (.int x5)] [] (mw_U s) = mj_exec X d 117 9 [some (.ref k0), some (.int x1), some (.int x2), some (.int x3), some (.int (x4 + (nI 1))), some (.int x5)] [] (mw_U s) := (mj_q_iinc mw_m117 d117_150 rfl (Nat.le_of_ble_eq_true rfl) rfl mw_k_iconst_1 rfl).trans (mj_q_goto mw_m117 d117_153 rfl)
theorem b117_156 {X : mj_X} {d : Nat} {s : mw_S} {k0 : Nat} {x1 : Int32} {x2 : Int32} {x3 : Int32} {x4 : Int32} {l5 : Option Value} (h0 : mw_cl k0 = some 6) : mj_exec X d 117 156 [some (.ref k0), some (.int x1), some (.int x2), some (.int x3), some (.int x4), l5] [] (mw_U s) = if x3 ≤ 0 then mj_exec X d 117 171 [some (.ref k0), some (.int x1), some (.int x2), some (.int x3), some (.int x4), l5] [] (mw_U s) else mj_exec X d 117 160 [some (.ref k0), some (.int x1), some (.int x2), some (.int x3), some (.int x4), l5] [] (mw_U s) := (mj_q_iload_n mw_m117 d117_156 rfl).trans (mj_q_if_le mw_m117 d117_157 rfl)
theorem b117_160 {X : mj_X} {d : Nat} {s : mw_S} {k0 : Nat} {x1 : Int32} {x2 : Int32} {x3 : Int32} {x4 : Int32} {l5 : Option Value} (h0 : mw_cl k0 = some 6) : mj_exec X d 117 160 [some (.ref k0), some (.int x1), some (.int x2), some (.int x3), some (.int x4), l5] [] (mw_U s) = if mw_in 40 (x3 - (nI 1)) = true then mj_exec X d 117 172 [some (.ref k0), some (.int x1), some (.int x2), some (.int x3), some (.int x4), l5] [.int (s.1 (k0 + 3) ((x3 - (nI 1))).toNatClampNeg)] (mw_U s) else none := (mj_q_aload_n mw_m117 d117_160 rfl (mw_neo h0)).trans ((mw_q_getr mw_m117 d117_161 mw_p6_34 h0 (mw_f6_7 h0)).trans ((mj_q_iload_n mw_m117 d117_164 rfl).trans ((mj_q_iconst mw_m117 d117_165 mw_k_iconst_1).trans ((mj_q_isub mw_m117 d117_166).trans ((mw_h_iald mw_m117 d117_167 (mw_a6_7 h0)).trans (mw_g (mj_q_goto mw_m117 d117_168 rfl)))))))
theorem b117_171 {X : mj_X} {d : Nat} {s : mw_S} {k0 : Nat} {x1 : Int32} {x2 : Int32} {x3 : Int32} {x4 : Int32} {l5 : Option Value} (h0 : mw_cl k0 = some 6) : mj_exec X d 117 171 [some (.ref k0), some (.int x1), some (.int x2), some (.int x3), some (.int x4), l5] [] (mw_U s) = mj_exec X d 117 172 [some (.ref k0), some (.int x1), some (.int x2), some (.int x3), some (.int x4), l5] [.int (nI 0)] (mw_U s) := mj_q_iconst mw_m117 d117_171 mw_k_iconst_0
theorem b117_172 {X : mj_X} {d : Nat} {s : mw_S} {k0 : Nat} {x1 : Int32} {x2 : Int32} {x3 : Int32} {x4 : Int32} {l5 : Option Value} {xs0 : Int32} (h0 : mw_cl k0 = some 6) : mj_exec X d 117 172 [some (.ref k0), some (.int x1), some (.int x2), some (.int x3), some (.int x4), l5] [.int xs0] (mw_U s) = some (.inl (some (.int xs0)), mw_U s) := mj_q_iret mw_m117 d117_172 rfl
/-- WivesQuarrels$Rules.joined -/
theorem d118_0 : decode prog_9_method_18_code 0 = .ok (.iload_n 0, 1) := by decide +kernel
theorem d118_1 : decode prog_9_method_18_code 1 = .ok (.tableswitch 105 (-14) (-8) #[101, 97, 93, 82, 71, 57, 43], 43) := by decide +kernel
theorem d118_44 : decode prog_9_method_18_code 44 = .ok (.iload_n 1, 1) := by decide +kernel
theorem d118_45 : decode prog_9_method_18_code 45 = .ok (.ifCond .eq 11, 3) := by decide +kernel
theorem d118_48 : decode prog_9_method_18_code 48 = .ok (.iload_n 2, 1) := by decide +kernel
theorem d118_49 : decode prog_9_method_18_code 49 = .ok (.ifCond .eq 7, 3) := by decide +kernel
theorem d118_52 : decode prog_9_method_18_code 52 = .ok (.iconst 1, 1) := by decide +kernel
theorem d118_53 : decode prog_9_method_18_code 53 = .ok (.goto 4, 3) := by decide +kernel
theorem d118_56 : decode prog_9_method_18_code 56 = .ok (.iconst 0, 1) := by decide +kernel
theorem d118_57 : decode prog_9_method_18_code 57 = .ok (.ireturn, 1) := by decide +kernel
theorem d118_58 : decode prog_9_method_18_code 58 = .ok (.iload_n 1, 1) := by decide +kernel
theorem d118_59 : decode prog_9_method_18_code 59 = .ok (.ifCond .ne 7, 3) := by decide +kernel
theorem d118_62 : decode prog_9_method_18_code 62 = .ok (.iload_n 2, 1) := by decide +kernel
theorem d118_63 : decode prog_9_method_18_code 63 = .ok (.ifCond .eq 7, 3) := by decide +kernel
theorem d118_66 : decode prog_9_method_18_code 66 = .ok (.iconst 1, 1) := by decide +kernel
theorem d118_67 : decode prog_9_method_18_code 67 = .ok (.goto 4, 3) := by decide +kernel
theorem d118_70 : decode prog_9_method_18_code 70 = .ok (.iconst 0, 1) := by decide +kernel
theorem d118_71 : decode prog_9_method_18_code 71 = .ok (.ireturn, 1) := by decide +kernel
theorem d118_72 : decode prog_9_method_18_code 72 = .ok (.iload_n 1, 1) := by decide +kernel
theorem d118_73 : decode prog_9_method_18_code 73 = .ok (.iload_n 2, 1) := by decide +kernel
theorem d118_74 : decode prog_9_method_18_code 74 = .ok (.if_icmp .ge 7, 3) := by decide +kernel
theorem d118_77 : decode prog_9_method_18_code 77 = .ok (.iconst 1, 1) := by decide +kernel
theorem d118_78 : decode prog_9_method_18_code 78 = .ok (.goto 4, 3) := by decide +kernel
theorem d118_81 : decode prog_9_method_18_code 81 = .ok (.iconst 0, 1) := by decide +kernel
theorem d118_82 : decode prog_9_method_18_code 82 = .ok (.ireturn, 1) := by decide +kernel
theorem d118_83 : decode prog_9_method_18_code 83 = .ok (.iload_n 1, 1) := by decide +kernel
theorem d118_84 : decode prog_9_method_18_code 84 = .ok (.iload_n 2, 1) := by decide +kernel
theorem d118_85 : decode prog_9_method_18_code 85 = .ok (.if_icmp .ne 7, 3) := by decide +kernel
theorem d118_88 : decode prog_9_method_18_code 88 = .ok (.iconst 1, 1) := by decide +kernel
theorem d118_89 : decode prog_9_method_18_code 89 = .ok (.goto 4, 3) := by decide +kernel
theorem d118_92 : decode prog_9_method_18_code 92 = .ok (.iconst 0, 1) := by decide +kernel
theorem d118_93 : decode prog_9_method_18_code 93 = .ok (.ireturn, 1) := by decide +kernel
theorem d118_94 : decode prog_9_method_18_code 94 = .ok (.iload_n 1, 1) := by decide +kernel
theorem d118_95 : decode prog_9_method_18_code 95 = .ok (.iload_n 2, 1) := by decide +kernel
theorem d118_96 : decode prog_9_method_18_code 96 = .ok (.iadd, 1) := by decide +kernel
theorem d118_97 : decode prog_9_method_18_code 97 = .ok (.ireturn, 1) := by decide +kernel
theorem d118_98 : decode prog_9_method_18_code 98 = .ok (.iload_n 1, 1) := by decide +kernel
theorem d118_99 : decode prog_9_method_18_code 99 = .ok (.iload_n 2, 1) := by decide +kernel
theorem d118_100 : decode prog_9_method_18_code 100 = .ok (.isub, 1) := by decide +kernel
theorem d118_101 : decode prog_9_method_18_code 101 = .ok (.ireturn, 1) := by decide +kernel
theorem d118_102 : decode prog_9_method_18_code 102 = .ok (.iload_n 1, 1) := by decide +kernel
theorem d118_103 : decode prog_9_method_18_code 103 = .ok (.iload_n 2, 1) := by decide +kernel
theorem d118_104 : decode prog_9_method_18_code 104 = .ok (.imul, 1) := by decide +kernel
theorem d118_105 : decode prog_9_method_18_code 105 = .ok (.ireturn, 1) := by decide +kernel
theorem d118_106 : decode prog_9_method_18_code 106 = .ok (.iload_n 2, 1) := by decide +kernel
theorem d118_107 : decode prog_9_method_18_code 107 = .ok (.ifCond .ne 7, 3) := by decide +kernel
theorem d118_110 : decode prog_9_method_18_code 110 = .ok (.iconst 0, 1) := by decide +kernel
theorem d118_111 : decode prog_9_method_18_code 111 = .ok (.goto 6, 3) := by decide +kernel
theorem d118_114 : decode prog_9_method_18_code 114 = .ok (.iload_n 1, 1) := by decide +kernel
theorem d118_115 : decode prog_9_method_18_code 115 = .ok (.iload_n 2, 1) := by decide +kernel
theorem d118_116 : decode prog_9_method_18_code 116 = .ok (.idiv, 1) := by decide +kernel
theorem d118_117 : decode prog_9_method_18_code 117 = .ok (.ireturn, 1) := by decide +kernel
theorem b118 {X : mj_X} {d : Nat} {w : mj_W} {x0 : Int32} {x1 : Int32} {x2 : Int32} : mj_call X d 118 [.int x0, .int x1, .int x2] w = mj_exec X d 118 0 [some (.int x0), some (.int x1), some (.int x2)] [] w := mw_ent mw_m118 (Nat.le_of_ble_eq_true rfl) rfl
theorem b118_0 {X : mj_X} {d : Nat} {s : mw_S} {x0 : Int32} {x1 : Int32} {x2 : Int32}  : mj_exec X d 118 0 [some (.int x0), some (.int x1), some (.int x2)] [] (mw_U s) = mw_tl x0 (-14) [mj_exec X d 118 102 [some (.int x0), some (.int x1), some (.int x2)] [] (mw_U s), mj_exec X d 118 98 [some (.int x0), some (.int x1), some (.int x2)] [] (mw_U s), mj_exec X d 118 94 [some (.int x0), some (.int x1), some (.int x2)] [] (mw_U s), mj_exec X d 118 83 [some (.int x0), some (.int x1), some (.int x2)] [] (mw_U s), mj_exec X d 118 72 [some (.int x0), some (.int x1), some (.int x2)] [] (mw_U s), mj_exec X d 118 58 [some (.int x0), some (.int x1), some (.int x2)] [] (mw_U s), mj_exec X d 118 44 [some (.int x0), some (.int x1), some (.int x2)] [] (mw_U s)] (mj_exec X d 118 106 [some (.int x0), some (.int x1), some (.int x2)] [] (mw_U s)) := (mj_q_iload_n mw_m118 d118_0 rfl).trans (mw_q_tsw mw_m118 [102, 98, 94, 83, 72, 58, 44] d118_1 rfl (by decide) (by decide))
theorem b118_44 {X : mj_X} {d : Nat} {s : mw_S} {x0 : Int32} {x1 : Int32} {x2 : Int32}  : mj_exec X d 118 44 [some (.int x0), some (.int x1), some (.int x2)] [] (mw_U s) = if x1 = 0 then mj_exec X d 118 56 [some (.int x0), some (.int x1), some (.int x2)] [] (mw_U s) else mj_exec X d 118 48 [some (.int x0), some (.int x1), some (.int x2)] [] (mw_U s) := (mj_q_iload_n mw_m118 d118_44 rfl).trans (mj_q_if_eq mw_m118 d118_45 rfl)
theorem b118_48 {X : mj_X} {d : Nat} {s : mw_S} {x0 : Int32} {x1 : Int32} {x2 : Int32}  : mj_exec X d 118 48 [some (.int x0), some (.int x1), some (.int x2)] [] (mw_U s) = if x2 = 0 then mj_exec X d 118 56 [some (.int x0), some (.int x1), some (.int x2)] [] (mw_U s) else mj_exec X d 118 52 [some (.int x0), some (.int x1), some (.int x2)] [] (mw_U s) := (mj_q_iload_n mw_m118 d118_48 rfl).trans (mj_q_if_eq mw_m118 d118_49 rfl)
theorem b118_52 {X : mj_X} {d : Nat} {s : mw_S} {x0 : Int32} {x1 : Int32} {x2 : Int32}  : mj_exec X d 118 52 [some (.int x0), some (.int x1), some (.int x2)] [] (mw_U s) = mj_exec X d 118 57 [some (.int x0), some (.int x1), some (.int x2)] [.int (nI 1)] (mw_U s) := (mj_q_iconst mw_m118 d118_52 mw_k_iconst_1).trans (mj_q_goto mw_m118 d118_53 rfl)
theorem b118_56 {X : mj_X} {d : Nat} {s : mw_S} {x0 : Int32} {x1 : Int32} {x2 : Int32}  : mj_exec X d 118 56 [some (.int x0), some (.int x1), some (.int x2)] [] (mw_U s) = mj_exec X d 118 57 [some (.int x0), some (.int x1), some (.int x2)] [.int (nI 0)] (mw_U s) := mj_q_iconst mw_m118 d118_56 mw_k_iconst_0
theorem b118_57 {X : mj_X} {d : Nat} {s : mw_S} {x0 : Int32} {x1 : Int32} {x2 : Int32} {xs0 : Int32}  : mj_exec X d 118 57 [some (.int x0), some (.int x1), some (.int x2)] [.int xs0] (mw_U s) = some (.inl (some (.int xs0)), mw_U s) := mj_q_iret mw_m118 d118_57 rfl
theorem b118_58 {X : mj_X} {d : Nat} {s : mw_S} {x0 : Int32} {x1 : Int32} {x2 : Int32}  : mj_exec X d 118 58 [some (.int x0), some (.int x1), some (.int x2)] [] (mw_U s) = if x1 = 0 then mj_exec X d 118 62 [some (.int x0), some (.int x1), some (.int x2)] [] (mw_U s) else mj_exec X d 118 66 [some (.int x0), some (.int x1), some (.int x2)] [] (mw_U s) := (mj_q_iload_n mw_m118 d118_58 rfl).trans (mj_q_if_ne mw_m118 d118_59 rfl)
theorem b118_62 {X : mj_X} {d : Nat} {s : mw_S} {x0 : Int32} {x1 : Int32} {x2 : Int32}  : mj_exec X d 118 62 [some (.int x0), some (.int x1), some (.int x2)] [] (mw_U s) = if x2 = 0 then mj_exec X d 118 70 [some (.int x0), some (.int x1), some (.int x2)] [] (mw_U s) else mj_exec X d 118 66 [some (.int x0), some (.int x1), some (.int x2)] [] (mw_U s) := (mj_q_iload_n mw_m118 d118_62 rfl).trans (mj_q_if_eq mw_m118 d118_63 rfl)
theorem b118_66 {X : mj_X} {d : Nat} {s : mw_S} {x0 : Int32} {x1 : Int32} {x2 : Int32}  : mj_exec X d 118 66 [some (.int x0), some (.int x1), some (.int x2)] [] (mw_U s) = mj_exec X d 118 71 [some (.int x0), some (.int x1), some (.int x2)] [.int (nI 1)] (mw_U s) := (mj_q_iconst mw_m118 d118_66 mw_k_iconst_1).trans (mj_q_goto mw_m118 d118_67 rfl)
theorem b118_70 {X : mj_X} {d : Nat} {s : mw_S} {x0 : Int32} {x1 : Int32} {x2 : Int32}  : mj_exec X d 118 70 [some (.int x0), some (.int x1), some (.int x2)] [] (mw_U s) = mj_exec X d 118 71 [some (.int x0), some (.int x1), some (.int x2)] [.int (nI 0)] (mw_U s) := mj_q_iconst mw_m118 d118_70 mw_k_iconst_0
theorem b118_71 {X : mj_X} {d : Nat} {s : mw_S} {x0 : Int32} {x1 : Int32} {x2 : Int32} {xs0 : Int32}  : mj_exec X d 118 71 [some (.int x0), some (.int x1), some (.int x2)] [.int xs0] (mw_U s) = some (.inl (some (.int xs0)), mw_U s) := mj_q_iret mw_m118 d118_71 rfl
theorem b118_72 {X : mj_X} {d : Nat} {s : mw_S} {x0 : Int32} {x1 : Int32} {x2 : Int32}  : mj_exec X d 118 72 [some (.int x0), some (.int x1), some (.int x2)] [] (mw_U s) = if x2 ≤ x1 then mj_exec X d 118 81 [some (.int x0), some (.int x1), some (.int x2)] [] (mw_U s) else mj_exec X d 118 77 [some (.int x0), some (.int x1), some (.int x2)] [] (mw_U s) := (mj_q_iload_n mw_m118 d118_72 rfl).trans ((mj_q_iload_n mw_m118 d118_73 rfl).trans (mj_q_icmp_ge mw_m118 d118_74 rfl))
theorem b118_77 {X : mj_X} {d : Nat} {s : mw_S} {x0 : Int32} {x1 : Int32} {x2 : Int32}  : mj_exec X d 118 77 [some (.int x0), some (.int x1), some (.int x2)] [] (mw_U s) = mj_exec X d 118 82 [some (.int x0), some (.int x1), some (.int x2)] [.int (nI 1)] (mw_U s) := (mj_q_iconst mw_m118 d118_77 mw_k_iconst_1).trans (mj_q_goto mw_m118 d118_78 rfl)
theorem b118_81 {X : mj_X} {d : Nat} {s : mw_S} {x0 : Int32} {x1 : Int32} {x2 : Int32}  : mj_exec X d 118 81 [some (.int x0), some (.int x1), some (.int x2)] [] (mw_U s) = mj_exec X d 118 82 [some (.int x0), some (.int x1), some (.int x2)] [.int (nI 0)] (mw_U s) := mj_q_iconst mw_m118 d118_81 mw_k_iconst_0
theorem b118_82 {X : mj_X} {d : Nat} {s : mw_S} {x0 : Int32} {x1 : Int32} {x2 : Int32} {xs0 : Int32}  : mj_exec X d 118 82 [some (.int x0), some (.int x1), some (.int x2)] [.int xs0] (mw_U s) = some (.inl (some (.int xs0)), mw_U s) := mj_q_iret mw_m118 d118_82 rfl
theorem b118_83 {X : mj_X} {d : Nat} {s : mw_S} {x0 : Int32} {x1 : Int32} {x2 : Int32}  : mj_exec X d 118 83 [some (.int x0), some (.int x1), some (.int x2)] [] (mw_U s) = if x1 = x2 then mj_exec X d 118 88 [some (.int x0), some (.int x1), some (.int x2)] [] (mw_U s) else mj_exec X d 118 92 [some (.int x0), some (.int x1), some (.int x2)] [] (mw_U s) := (mj_q_iload_n mw_m118 d118_83 rfl).trans ((mj_q_iload_n mw_m118 d118_84 rfl).trans (mj_q_icmp_ne mw_m118 d118_85 rfl))
theorem b118_88 {X : mj_X} {d : Nat} {s : mw_S} {x0 : Int32} {x1 : Int32} {x2 : Int32}  : mj_exec X d 118 88 [some (.int x0), some (.int x1), some (.int x2)] [] (mw_U s) = mj_exec X d 118 93 [some (.int x0), some (.int x1), some (.int x2)] [.int (nI 1)] (mw_U s) := (mj_q_iconst mw_m118 d118_88 mw_k_iconst_1).trans (mj_q_goto mw_m118 d118_89 rfl)
theorem b118_92 {X : mj_X} {d : Nat} {s : mw_S} {x0 : Int32} {x1 : Int32} {x2 : Int32}  : mj_exec X d 118 92 [some (.int x0), some (.int x1), some (.int x2)] [] (mw_U s) = mj_exec X d 118 93 [some (.int x0), some (.int x1), some (.int x2)] [.int (nI 0)] (mw_U s) := mj_q_iconst mw_m118 d118_92 mw_k_iconst_0
theorem b118_93 {X : mj_X} {d : Nat} {s : mw_S} {x0 : Int32} {x1 : Int32} {x2 : Int32} {xs0 : Int32}  : mj_exec X d 118 93 [some (.int x0), some (.int x1), some (.int x2)] [.int xs0] (mw_U s) = some (.inl (some (.int xs0)), mw_U s) := mj_q_iret mw_m118 d118_93 rfl
theorem b118_94 {X : mj_X} {d : Nat} {s : mw_S} {x0 : Int32} {x1 : Int32} {x2 : Int32}  : mj_exec X d 118 94 [some (.int x0), some (.int x1), some (.int x2)] [] (mw_U s) = some (.inl (some (.int (x1 + x2))), mw_U s) := (mj_q_iload_n mw_m118 d118_94 rfl).trans ((mj_q_iload_n mw_m118 d118_95 rfl).trans ((mj_q_iadd mw_m118 d118_96).trans (mj_q_iret mw_m118 d118_97 rfl)))
theorem b118_98 {X : mj_X} {d : Nat} {s : mw_S} {x0 : Int32} {x1 : Int32} {x2 : Int32}  : mj_exec X d 118 98 [some (.int x0), some (.int x1), some (.int x2)] [] (mw_U s) = some (.inl (some (.int (x1 - x2))), mw_U s) := (mj_q_iload_n mw_m118 d118_98 rfl).trans ((mj_q_iload_n mw_m118 d118_99 rfl).trans ((mj_q_isub mw_m118 d118_100).trans (mj_q_iret mw_m118 d118_101 rfl)))
theorem b118_102 {X : mj_X} {d : Nat} {s : mw_S} {x0 : Int32} {x1 : Int32} {x2 : Int32}  : mj_exec X d 118 102 [some (.int x0), some (.int x1), some (.int x2)] [] (mw_U s) = some (.inl (some (.int (x1 * x2))), mw_U s) := (mj_q_iload_n mw_m118 d118_102 rfl).trans ((mj_q_iload_n mw_m118 d118_103 rfl).trans ((mj_q_imul mw_m118 d118_104).trans (mj_q_iret mw_m118 d118_105 rfl)))
theorem b118_106 {X : mj_X} {d : Nat} {s : mw_S} {x0 : Int32} {x1 : Int32} {x2 : Int32}  : mj_exec X d 118 106 [some (.int x0), some (.int x1), some (.int x2)] [] (mw_U s) = if x2 = 0 then mj_exec X d 118 110 [some (.int x0), some (.int x1), some (.int x2)] [] (mw_U s) else mj_exec X d 118 114 [some (.int x0), some (.int x1), some (.int x2)] [] (mw_U s) := (mj_q_iload_n mw_m118 d118_106 rfl).trans (mj_q_if_ne mw_m118 d118_107 rfl)
theorem b118_110 {X : mj_X} {d : Nat} {s : mw_S} {x0 : Int32} {x1 : Int32} {x2 : Int32}  : mj_exec X d 118 110 [some (.int x0), some (.int x1), some (.int x2)] [] (mw_U s) = mj_exec X d 118 117 [some (.int x0), some (.int x1), some (.int x2)] [.int (nI 0)] (mw_U s) := (mj_q_iconst mw_m118 d118_110 mw_k_iconst_0).trans (mj_q_goto mw_m118 d118_111 rfl)
theorem b118_114 {X : mj_X} {d : Nat} {s : mw_S} {x0 : Int32} {x1 : Int32} {x2 : Int32}  : mj_exec X d 118 114 [some (.int x0), some (.int x1), some (.int x2)] [] (mw_U s) = if mw_nz x2 = true then mj_exec X d 118 117 [some (.int x0), some (.int x1), some (.int x2)] [.int (x1 / x2)] (mw_U s) else none := (mj_q_iload_n mw_m118 d118_114 rfl).trans ((mj_q_iload_n mw_m118 d118_115 rfl).trans ((mw_h_idiv mw_m118 d118_116).trans (mw_g (rfl))))
theorem b118_117 {X : mj_X} {d : Nat} {s : mw_S} {x0 : Int32} {x1 : Int32} {x2 : Int32} {xs0 : Int32}  : mj_exec X d 118 117 [some (.int x0), some (.int x1), some (.int x2)] [.int xs0] (mw_U s) = some (.inl (some (.int xs0)), mw_U s) := mj_q_iret mw_m118 d118_117 rfl
/-- WivesQuarrels$Rules.cutsNow -/
theorem d119_0 : decode prog_9_method_15_code 0 = .ok (.aload_n 0, 1) := by decide +kernel
theorem d119_1 : decode prog_9_method_15_code 1 = .ok (.invokevirtual 93, 3) := by decide +kernel
theorem d119_4 : decode prog_9_method_15_code 4 = .ok (.ifCond .eq 26, 3) := by decide +kernel
theorem d119_7 : decode prog_9_method_15_code 7 = .ok (.aload_n 0, 1) := by decide +kernel
theorem d119_8 : decode prog_9_method_15_code 8 = .ok (.aload_n 0, 1) := by decide +kernel
theorem d119_9 : decode prog_9_method_15_code 9 = .ok (.getfield 25, 3) := by decide +kernel
theorem d119_12 : decode prog_9_method_15_code 12 = .ok (.aload_n 0, 1) := by decide +kernel
theorem d119_13 : decode prog_9_method_15_code 13 = .ok (.getfield 28, 3) := by decide +kernel
theorem d119_16 : decode prog_9_method_15_code 16 = .ok (.invokevirtual 87, 3) := by decide +kernel
theorem d119_19 : decode prog_9_method_15_code 19 = .ok (.ifCond .le 7, 3) := by decide +kernel
theorem d119_22 : decode prog_9_method_15_code 22 = .ok (.iconst 1, 1) := by decide +kernel
theorem d119_23 : decode prog_9_method_15_code 23 = .ok (.goto 23, 3) := by decide +kernel
theorem d119_26 : decode prog_9_method_15_code 26 = .ok (.iconst 0, 1) := by decide +kernel
theorem d119_27 : decode prog_9_method_15_code 27 = .ok (.goto 19, 3) := by decide +kernel
theorem d119_30 : decode prog_9_method_15_code 30 = .ok (.aload_n 0, 1) := by decide +kernel
theorem d119_31 : decode prog_9_method_15_code 31 = .ok (.getfield 31, 3) := by decide +kernel
theorem d119_34 : decode prog_9_method_15_code 34 = .ok (.iconst 0, 1) := by decide +kernel
theorem d119_35 : decode prog_9_method_15_code 35 = .ok (.iaload, 1) := by decide +kernel
theorem d119_36 : decode prog_9_method_15_code 36 = .ok (.bipush 20, 2) := by decide +kernel
theorem d119_38 : decode prog_9_method_15_code 38 = .ok (.if_icmp .lt 7, 3) := by decide +kernel
theorem d119_41 : decode prog_9_method_15_code 41 = .ok (.iconst 1, 1) := by decide +kernel
theorem d119_42 : decode prog_9_method_15_code 42 = .ok (.goto 4, 3) := by decide +kernel
theorem d119_45 : decode prog_9_method_15_code 45 = .ok (.iconst 0, 1) := by decide +kernel
theorem d119_46 : decode prog_9_method_15_code 46 = .ok (.ireturn, 1) := by decide +kernel
theorem b119 {X : mj_X} {d : Nat} {w : mj_W} {x0 : Nat} : mj_call X d 119 [.ref x0] w = mj_exec X d 119 0 [some (.ref x0)] [] w := mw_ent mw_m119 (Nat.le_of_ble_eq_true rfl) rfl
theorem b119_0 {X : mj_X} {d : Nat} {s : mw_S} {k0 : Nat} (h0 : mw_cl k0 = some 6) : mj_exec X (d + 1) 119 0 [some (.ref k0)] [] (mw_U s) = (mj_call X d 120 [.ref k0] (mw_U s)).bind (mj_bk X (d + 1) 119 4 [some (.ref k0)] []) := (mj_q_aload_n mw_m119 d119_0 rfl (mw_neo h0)).trans (mw_q_callv mw_m119 rfl d119_1 mw_p6_93 mw_m120 rfl rfl (Nat.le_of_ble_eq_true rfl) (Nat.le_of_ble_eq_true rfl) rfl (mw_rcv h0) rfl rfl)
theorem b119_4 {X : mj_X} {d : Nat} {s : mw_S} {k0 : Nat} {xs0 : Int32} (h0 : mw_cl k0 = some 6) : mj_exec X d 119 4 [some (.ref k0)] [.int xs0] (mw_U s) = if xs0 = 0 then mj_exec X d 119 30 [some (.ref k0)] [] (mw_U s) else mj_exec X d 119 7 [some (.ref k0)] [] (mw_U s) := mj_q_if_eq mw_m119 d119_4 rfl
theorem b119_7 {X : mj_X} {d : Nat} {s : mw_S} {k0 : Nat} (h0 : mw_cl k0 = some 6) : mj_exec X (d + 1) 119 7 [some (.ref k0)] [] (mw_U s) = (mj_call X d 117 [.ref k0, .int (s.1 k0 4), .int (s.1 k0 5)] (mw_U s)).bind (mj_bk X (d + 1) 119 19 [some (.ref k0)] []) := (mj_q_aload_n mw_m119 d119_7 rfl (mw_neo h0)).trans ((mj_q_aload_n mw_m119 d119_8 rfl (mw_neo h0)).trans ((mw_q_geti mw_m119 d119_9 mw_p6_25 h0 (mw_f6_4 h0)).trans ((mj_q_aload_n mw_m119 d119_12 rfl (mw_neo h0)).trans ((mw_q_geti mw_m119 d119_13 mw_p6_28 h0 (mw_f6_5 h0)).trans (mw_q_callv mw_m119 rfl d119_16 mw_p6_87 mw_m117 rfl rfl (Nat.le_of_ble_eq_true rfl) (Nat.le_of_ble_eq_true rfl) rfl (mw_rcv h0) rfl rfl)))))
theorem b119_19 {X : mj_X} {d : Nat} {s : mw_S} {k0 : Nat} {xs0 : Int32} (h0 : mw_cl k0 = some 6) : mj_exec X d 119 19 [some (.ref k0)] [.int xs0] (mw_U s) = if xs0 ≤ 0 then mj_exec X d 119 26 [some (.ref k0)] [] (mw_U s) else mj_exec X d 119 22 [some (.ref k0)] [] (mw_U s) := mj_q_if_le mw_m119 d119_19 rfl
theorem b119_22 {X : mj_X} {d : Nat} {s : mw_S} {k0 : Nat} (h0 : mw_cl k0 = some 6) : mj_exec X d 119 22 [some (.ref k0)] [] (mw_U s) = mj_exec X d 119 46 [some (.ref k0)] [.int (nI 1)] (mw_U s) := (mj_q_iconst mw_m119 d119_22 mw_k_iconst_1).trans (mj_q_goto mw_m119 d119_23 rfl)
theorem b119_26 {X : mj_X} {d : Nat} {s : mw_S} {k0 : Nat} (h0 : mw_cl k0 = some 6) : mj_exec X d 119 26 [some (.ref k0)] [] (mw_U s) = mj_exec X d 119 46 [some (.ref k0)] [.int (nI 0)] (mw_U s) := (mj_q_iconst mw_m119 d119_26 mw_k_iconst_0).trans (mj_q_goto mw_m119 d119_27 rfl)
theorem b119_30 {X : mj_X} {d : Nat} {s : mw_S} {k0 : Nat} (h0 : mw_cl k0 = some 6) : mj_exec X d 119 30 [some (.ref k0)] [] (mw_U s) = if mw_in 6 (nI 0) = true then if (s.1 (k0 + 2) ((nI 0)).toNatClampNeg) < (nI 20) then mj_exec X d 119 45 [some (.ref k0)] [] (mw_U s) else mj_exec X d 119 41 [some (.ref k0)] [] (mw_U s) else none := (mj_q_aload_n mw_m119 d119_30 rfl (mw_neo h0)).trans ((mw_q_getr mw_m119 d119_31 mw_p6_31 h0 (mw_f6_6 h0)).trans ((mj_q_iconst mw_m119 d119_34 mw_k_iconst_0).trans ((mw_h_iald mw_m119 d119_35 (mw_a6_6 h0)).trans (mw_g ((mj_q_bipush mw_m119 d119_36 mw_k_bipush_20).trans (mj_q_icmp_lt mw_m119 d119_38 rfl))))))
theorem b119_41 {X : mj_X} {d : Nat} {s : mw_S} {k0 : Nat} (h0 : mw_cl k0 = some 6) : mj_exec X d 119 41 [some (.ref k0)] [] (mw_U s) = mj_exec X d 119 46 [some (.ref k0)] [.int (nI 1)] (mw_U s) := (mj_q_iconst mw_m119 d119_41 mw_k_iconst_1).trans (mj_q_goto mw_m119 d119_42 rfl)
theorem b119_45 {X : mj_X} {d : Nat} {s : mw_S} {k0 : Nat} (h0 : mw_cl k0 = some 6) : mj_exec X d 119 45 [some (.ref k0)] [] (mw_U s) = mj_exec X d 119 46 [some (.ref k0)] [.int (nI 0)] (mw_U s) := mj_q_iconst mw_m119 d119_45 mw_k_iconst_0
theorem b119_46 {X : mj_X} {d : Nat} {s : mw_S} {k0 : Nat} {xs0 : Int32} (h0 : mw_cl k0 = some 6) : mj_exec X d 119 46 [some (.ref k0)] [.int xs0] (mw_U s) = if mj_rfit (some .boolean) xs0 = true then some (.inl (some (.int xs0)), mw_U s) else none := mw_h_iret mw_m119 d119_46 rfl
/-- WivesQuarrels$Rules.hasCuts -/
theorem d120_0 : decode prog_9_method_5_code 0 = .ok (.aload_n 0, 1) := by decide +kernel
theorem d120_1 : decode prog_9_method_5_code 1 = .ok (.getfield 25, 3) := by decide +kernel
theorem d120_4 : decode prog_9_method_5_code 4 = .ok (.iconst (-1), 1) := by decide +kernel
theorem d120_5 : decode prog_9_method_5_code 5 = .ok (.if_icmp .eq 7, 3) := by decide +kernel
theorem d120_8 : decode prog_9_method_5_code 8 = .ok (.iconst 1, 1) := by decide +kernel
theorem d120_9 : decode prog_9_method_5_code 9 = .ok (.goto 4, 3) := by decide +kernel
theorem d120_12 : decode prog_9_method_5_code 12 = .ok (.iconst 0, 1) := by decide +kernel
theorem d120_13 : decode prog_9_method_5_code 13 = .ok (.ireturn, 1) := by decide +kernel
theorem b120 {X : mj_X} {d : Nat} {w : mj_W} {x0 : Nat} : mj_call X d 120 [.ref x0] w = mj_exec X d 120 0 [some (.ref x0)] [] w := mw_ent mw_m120 (Nat.le_of_ble_eq_true rfl) rfl
theorem b120_0 {X : mj_X} {d : Nat} {s : mw_S} {k0 : Nat} (h0 : mw_cl k0 = some 6) : mj_exec X d 120 0 [some (.ref k0)] [] (mw_U s) = if (s.1 k0 4) = (-1) then mj_exec X d 120 12 [some (.ref k0)] [] (mw_U s) else mj_exec X d 120 8 [some (.ref k0)] [] (mw_U s) := (mj_q_aload_n mw_m120 d120_0 rfl (mw_neo h0)).trans ((mw_q_geti mw_m120 d120_1 mw_p6_25 h0 (mw_f6_4 h0)).trans ((mj_q_iconst mw_m120 d120_4 mw_k_iconst_m1).trans (mj_q_icmp_eq mw_m120 d120_5 rfl)))
theorem b120_8 {X : mj_X} {d : Nat} {s : mw_S} {k0 : Nat} (h0 : mw_cl k0 = some 6) : mj_exec X d 120 8 [some (.ref k0)] [] (mw_U s) = mj_exec X d 120 13 [some (.ref k0)] [.int (nI 1)] (mw_U s) := (mj_q_iconst mw_m120 d120_8 mw_k_iconst_1).trans (mj_q_goto mw_m120 d120_9 rfl)
theorem b120_12 {X : mj_X} {d : Nat} {s : mw_S} {k0 : Nat} (h0 : mw_cl k0 = some 6) : mj_exec X d 120 12 [some (.ref k0)] [] (mw_U s) = mj_exec X d 120 13 [some (.ref k0)] [.int (nI 0)] (mw_U s) := mj_q_iconst mw_m120 d120_12 mw_k_iconst_0
theorem b120_13 {X : mj_X} {d : Nat} {s : mw_S} {k0 : Nat} {xs0 : Int32} (h0 : mw_cl k0 = some 6) : mj_exec X d 120 13 [some (.ref k0)] [.int xs0] (mw_U s) = if mj_rfit (some .boolean) xs0 = true then some (.inl (some (.int xs0)), mw_U s) else none := mw_h_iret mw_m120 d120_13 rfl
/-- WivesQuarrels$Rules.clear -/
theorem d121_0 : decode prog_9_method_2_code 0 = .ok (.aload_n 0, 1) := by decide +kernel
theorem d121_1 : decode prog_9_method_2_code 1 = .ok (.iconst 0, 1) := by decide +kernel
theorem d121_2 : decode prog_9_method_2_code 2 = .ok (.putfield 15, 3) := by decide +kernel
theorem d121_5 : decode prog_9_method_2_code 5 = .ok (.aload_n 0, 1) := by decide +kernel
theorem d121_6 : decode prog_9_method_2_code 6 = .ok (.iconst (-1), 1) := by decide +kernel
theorem d121_7 : decode prog_9_method_2_code 7 = .ok (.putfield 19, 3) := by decide +kernel
theorem d121_10 : decode prog_9_method_2_code 10 = .ok (.aload_n 0, 1) := by decide +kernel
theorem d121_11 : decode prog_9_method_2_code 11 = .ok (.iconst (-1), 1) := by decide +kernel
theorem d121_12 : decode prog_9_method_2_code 12 = .ok (.putfield 22, 3) := by decide +kernel
theorem d121_15 : decode prog_9_method_2_code 15 = .ok (.aload_n 0, 1) := by decide +kernel
theorem d121_16 : decode prog_9_method_2_code 16 = .ok (.iconst (-1), 1) := by decide +kernel
theorem d121_17 : decode prog_9_method_2_code 17 = .ok (.putfield 25, 3) := by decide +kernel
theorem d121_20 : decode prog_9_method_2_code 20 = .ok (.aload_n 0, 1) := by decide +kernel
theorem d121_21 : decode prog_9_method_2_code 21 = .ok (.iconst (-1), 1) := by decide +kernel
theorem d121_22 : decode prog_9_method_2_code 22 = .ok (.putfield 28, 3) := by decide +kernel
theorem d121_25 : decode prog_9_method_2_code 25 = .ok (.return_, 1) := by decide +kernel
theorem b121 {X : mj_X} {d : Nat} {w : mj_W} {x0 : Nat} : mj_call X d 121 [.ref x0] w = mj_exec X d 121 0 [some (.ref x0)] [] w := mw_ent mw_m121 (Nat.le_of_ble_eq_true rfl) rfl
theorem b121_0 {X : mj_X} {d : Nat} {s : mw_S} {k0 : Nat} (h0 : mw_cl k0 = some 6) : mj_exec X d 121 0 [some (.ref k0)] [] (mw_U s) = some (.inl none, mw_U (mw_p (mw_p (mw_p (mw_p (mw_p s k0 1 (nI 0)) k0 2 (-1)) k0 3 (-1)) k0 4 (-1)) k0 5 (-1))) := (mj_q_aload_n mw_m121 d121_0 rfl (mw_neo h0)).trans ((mj_q_iconst mw_m121 d121_1 mw_k_iconst_0).trans ((mw_q_puti mw_m121 d121_2 mw_p6_15 h0 (mw_f6_1 h0) (by decide) rfl (.inl rfl)).trans ((mj_q_aload_n mw_m121 d121_5 rfl (mw_neo h0)).trans ((mj_q_iconst mw_m121 d121_6 mw_k_iconst_m1).trans ((mw_q_puti mw_m121 d121_7 mw_p6_19 h0 (mw_f6_2 h0) (by decide) rfl (.inl rfl)).trans ((mj_q_aload_n mw_m121 d121_10 rfl (mw_neo h0)).trans ((mj_q_iconst mw_m121 d121_11 mw_k_iconst_m1).trans ((mw_q_puti mw_m121 d121_12 mw_p6_22 h0 (mw_f6_3 h0) (by decide) rfl (.inl rfl)).trans ((mj_q_aload_n mw_m121 d121_15 rfl (mw_neo h0)).trans ((mj_q_iconst mw_m121 d121_16 mw_k_iconst_m1).trans ((mw_q_puti mw_m121 d121_17 mw_p6_25 h0 (mw_f6_4 h0) (by decide) rfl (.inl rfl)).trans ((mj_q_aload_n mw_m121 d121_20 rfl (mw_neo h0)).trans ((mj_q_iconst mw_m121 d121_21 mw_k_iconst_m1).trans ((mw_q_puti mw_m121 d121_22 mw_p6_28 h0 (mw_f6_5 h0) (by decide) rfl (.inl rfl)).trans (mj_q_vret mw_m121 d121_25 rfl)))))))))))))))
/-- WivesQuarrels$Rules.beginHeats -/
theorem d122_0 : decode prog_9_method_6_code 0 = .ok (.aload_n 0, 1) := by decide +kernel
theorem d122_1 : decode prog_9_method_6_code 1 = .ok (.aload_n 0, 1) := by decide +kernel
theorem d122_2 : decode prog_9_method_6_code 2 = .ok (.getfield 15, 3) := by decide +kernel
theorem d122_5 : decode prog_9_method_6_code 5 = .ok (.putfield 19, 3) := by decide +kernel
theorem d122_8 : decode prog_9_method_6_code 8 = .ok (.return_, 1) := by decide +kernel
theorem b122 {X : mj_X} {d : Nat} {w : mj_W} {x0 : Nat} : mj_call X d 122 [.ref x0] w = mj_exec X d 122 0 [some (.ref x0)] [] w := mw_ent mw_m122 (Nat.le_of_ble_eq_true rfl) rfl
theorem b122_0 {X : mj_X} {d : Nat} {s : mw_S} {k0 : Nat} (h0 : mw_cl k0 = some 6) : mj_exec X d 122 0 [some (.ref k0)] [] (mw_U s) = some (.inl none, mw_U (mw_p s k0 2 (s.1 k0 1))) := (mj_q_aload_n mw_m122 d122_0 rfl (mw_neo h0)).trans ((mj_q_aload_n mw_m122 d122_1 rfl (mw_neo h0)).trans ((mw_q_geti mw_m122 d122_2 mw_p6_15 h0 (mw_f6_1 h0)).trans ((mw_q_puti mw_m122 d122_5 mw_p6_19 h0 (mw_f6_2 h0) (by decide) rfl (.inl rfl)).trans (mj_q_vret mw_m122 d122_8 rfl))))
/-- WivesQuarrels$Rules.add -/
theorem d123_0 : decode prog_9_method_10_code 0 = .ok (.aload_n 0, 1) := by decide +kernel
theorem d123_1 : decode prog_9_method_10_code 1 = .ok (.getfield 15, 3) := by decide +kernel
theorem d123_4 : decode prog_9_method_10_code 4 = .ok (.sipush 700, 3) := by decide +kernel
theorem d123_7 : decode prog_9_method_10_code 7 = .ok (.if_icmp .ge 23, 3) := by decide +kernel
theorem d123_10 : decode prog_9_method_10_code 10 = .ok (.aload_n 0, 1) := by decide +kernel
theorem d123_11 : decode prog_9_method_10_code 11 = .ok (.getfield 9, 3) := by decide +kernel
theorem d123_14 : decode prog_9_method_10_code 14 = .ok (.aload_n 0, 1) := by decide +kernel
theorem d123_15 : decode prog_9_method_10_code 15 = .ok (.getfield 15, 3) := by decide +kernel
theorem d123_18 : decode prog_9_method_10_code 18 = .ok (.iload_n 1, 1) := by decide +kernel
theorem d123_19 : decode prog_9_method_10_code 19 = .ok (.iastore, 1) := by decide +kernel
theorem d123_20 : decode prog_9_method_10_code 20 = .ok (.aload_n 0, 1) := by decide +kernel
theorem d123_21 : decode prog_9_method_10_code 21 = .ok (.dup, 1) := by decide +kernel
theorem d123_22 : decode prog_9_method_10_code 22 = .ok (.getfield 15, 3) := by decide +kernel
theorem d123_25 : decode prog_9_method_10_code 25 = .ok (.iconst 1, 1) := by decide +kernel
theorem d123_26 : decode prog_9_method_10_code 26 = .ok (.iadd, 1) := by decide +kernel
theorem d123_27 : decode prog_9_method_10_code 27 = .ok (.putfield 15, 3) := by decide +kernel
theorem d123_30 : decode prog_9_method_10_code 30 = .ok (.return_, 1) := by decide +kernel
theorem b123 {X : mj_X} {d : Nat} {w : mj_W} {x0 : Nat} {x1 : Int32} : mj_call X d 123 [.ref x0, .int x1] w = mj_exec X d 123 0 [some (.ref x0), some (.int x1)] [] w := mw_ent mw_m123 (Nat.le_of_ble_eq_true rfl) rfl
theorem b123_0 {X : mj_X} {d : Nat} {s : mw_S} {k0 : Nat} {x1 : Int32} (h0 : mw_cl k0 = some 6) : mj_exec X d 123 0 [some (.ref k0), some (.int x1)] [] (mw_U s) = if (nI 700) ≤ (s.1 k0 1) then mj_exec X d 123 30 [some (.ref k0), some (.int x1)] [] (mw_U s) else mj_exec X d 123 10 [some (.ref k0), some (.int x1)] [] (mw_U s) := (mj_q_aload_n mw_m123 d123_0 rfl (mw_neo h0)).trans ((mw_q_geti mw_m123 d123_1 mw_p6_15 h0 (mw_f6_1 h0)).trans ((mj_q_sipush mw_m123 d123_4 mw_k_sipush_700).trans (mj_q_icmp_ge mw_m123 d123_7 rfl)))
theorem b123_10 {X : mj_X} {d : Nat} {s : mw_S} {k0 : Nat} {x1 : Int32} (h0 : mw_cl k0 = some 6) : mj_exec X d 123 10 [some (.ref k0), some (.int x1)] [] (mw_U s) = if mw_in 700 (s.1 k0 1) = true then mj_exec X d 123 30 [some (.ref k0), some (.int x1)] [] (mw_U (mw_p (mw_p s (k0 + 1) ((s.1 k0 1)).toNatClampNeg x1) k0 1 (((mw_p s (k0 + 1) ((s.1 k0 1)).toNatClampNeg x1).1 k0 1) + (nI 1)))) else none := (mj_q_aload_n mw_m123 d123_10 rfl (mw_neo h0)).trans ((mw_q_getr mw_m123 d123_11 mw_p6_9 h0 (mw_f6_0 h0)).trans ((mj_q_aload_n mw_m123 d123_14 rfl (mw_neo h0)).trans ((mw_q_geti mw_m123 d123_15 mw_p6_15 h0 (mw_f6_1 h0)).trans ((mj_q_iload_n mw_m123 d123_18 rfl).trans ((mw_h_iast mw_m123 d123_19 (mw_a6_0 h0)).trans (mw_g ((mj_q_aload_n mw_m123 d123_20 rfl (mw_neo h0)).trans ((mj_q_dup mw_m123 d123_21 rfl).trans ((mw_q_geti mw_m123 d123_22 mw_p6_15 h0 (mw_f6_1 h0)).trans ((mj_q_iconst mw_m123 d123_25 mw_k_iconst_1).trans ((mj_q_iadd mw_m123 d123_26).trans (mw_q_puti mw_m123 d123_27 mw_p6_15 h0 (mw_f6_1 h0) (by decide) rfl (.inl rfl)))))))))))))
theorem b123_30 {X : mj_X} {d : Nat} {s : mw_S} {k0 : Nat} {x1 : Int32} (h0 : mw_cl k0 = some 6) : mj_exec X d 123 30 [some (.ref k0), some (.int x1)] [] (mw_U s) = some (.inl none, mw_U s) := mj_q_vret mw_m123 d123_30 rfl
/-- WivesQuarrels$Rules.endHeats -/
theorem d124_0 : decode prog_9_method_7_code 0 = .ok (.aload_n 0, 1) := by decide +kernel
theorem d124_1 : decode prog_9_method_7_code 1 = .ok (.aload_n 0, 1) := by decide +kernel
theorem d124_2 : decode prog_9_method_7_code 2 = .ok (.getfield 15, 3) := by decide +kernel
theorem d124_5 : decode prog_9_method_7_code 5 = .ok (.putfield 22, 3) := by decide +kernel
theorem d124_8 : decode prog_9_method_7_code 8 = .ok (.return_, 1) := by decide +kernel
theorem b124 {X : mj_X} {d : Nat} {w : mj_W} {x0 : Nat} : mj_call X d 124 [.ref x0] w = mj_exec X d 124 0 [some (.ref x0)] [] w := mw_ent mw_m124 (Nat.le_of_ble_eq_true rfl) rfl
theorem b124_0 {X : mj_X} {d : Nat} {s : mw_S} {k0 : Nat} (h0 : mw_cl k0 = some 6) : mj_exec X d 124 0 [some (.ref k0)] [] (mw_U s) = some (.inl none, mw_U (mw_p s k0 3 (s.1 k0 1))) := (mj_q_aload_n mw_m124 d124_0 rfl (mw_neo h0)).trans ((mj_q_aload_n mw_m124 d124_1 rfl (mw_neo h0)).trans ((mw_q_geti mw_m124 d124_2 mw_p6_15 h0 (mw_f6_1 h0)).trans ((mw_q_puti mw_m124 d124_5 mw_p6_22 h0 (mw_f6_3 h0) (by decide) rfl (.inl rfl)).trans (mj_q_vret mw_m124 d124_8 rfl))))
/-- WivesQuarrels$Rules.beginCuts -/
theorem d125_0 : decode prog_9_method_8_code 0 = .ok (.aload_n 0, 1) := by decide +kernel
theorem d125_1 : decode prog_9_method_8_code 1 = .ok (.aload_n 0, 1) := by decide +kernel
theorem d125_2 : decode prog_9_method_8_code 2 = .ok (.getfield 15, 3) := by decide +kernel
theorem d125_5 : decode prog_9_method_8_code 5 = .ok (.putfield 25, 3) := by decide +kernel
theorem d125_8 : decode prog_9_method_8_code 8 = .ok (.return_, 1) := by decide +kernel
theorem b125 {X : mj_X} {d : Nat} {w : mj_W} {x0 : Nat} : mj_call X d 125 [.ref x0] w = mj_exec X d 125 0 [some (.ref x0)] [] w := mw_ent mw_m125 (Nat.le_of_ble_eq_true rfl) rfl
theorem b125_0 {X : mj_X} {d : Nat} {s : mw_S} {k0 : Nat} (h0 : mw_cl k0 = some 6) : mj_exec X d 125 0 [some (.ref k0)] [] (mw_U s) = some (.inl none, mw_U (mw_p s k0 4 (s.1 k0 1))) := (mj_q_aload_n mw_m125 d125_0 rfl (mw_neo h0)).trans ((mj_q_aload_n mw_m125 d125_1 rfl (mw_neo h0)).trans ((mw_q_geti mw_m125 d125_2 mw_p6_15 h0 (mw_f6_1 h0)).trans ((mw_q_puti mw_m125 d125_5 mw_p6_25 h0 (mw_f6_4 h0) (by decide) rfl (.inl rfl)).trans (mj_q_vret mw_m125 d125_8 rfl))))
/-- WivesQuarrels$Rules.endCuts -/
theorem d126_0 : decode prog_9_method_9_code 0 = .ok (.aload_n 0, 1) := by decide +kernel
theorem d126_1 : decode prog_9_method_9_code 1 = .ok (.aload_n 0, 1) := by decide +kernel
theorem d126_2 : decode prog_9_method_9_code 2 = .ok (.getfield 15, 3) := by decide +kernel
theorem d126_5 : decode prog_9_method_9_code 5 = .ok (.putfield 28, 3) := by decide +kernel
theorem d126_8 : decode prog_9_method_9_code 8 = .ok (.return_, 1) := by decide +kernel
theorem b126 {X : mj_X} {d : Nat} {w : mj_W} {x0 : Nat} : mj_call X d 126 [.ref x0] w = mj_exec X d 126 0 [some (.ref x0)] [] w := mw_ent mw_m126 (Nat.le_of_ble_eq_true rfl) rfl
theorem b126_0 {X : mj_X} {d : Nat} {s : mw_S} {k0 : Nat} (h0 : mw_cl k0 = some 6) : mj_exec X d 126 0 [some (.ref k0)] [] (mw_U s) = some (.inl none, mw_U (mw_p s k0 5 (s.1 k0 1))) := (mj_q_aload_n mw_m126 d126_0 rfl (mw_neo h0)).trans ((mj_q_aload_n mw_m126 d126_1 rfl (mw_neo h0)).trans ((mw_q_geti mw_m126 d126_2 mw_p6_15 h0 (mw_f6_1 h0)).trans ((mw_q_puti mw_m126 d126_5 mw_p6_28 h0 (mw_f6_5 h0) (by decide) rfl (.inl rfl)).trans (mj_q_vret mw_m126 d126_8 rfl))))
/-- WivesQuarrels$Rules.copyFrom -/
theorem d127_0 : decode prog_9_method_3_code 0 = .ok (.aload_n 1, 1) := by decide +kernel
theorem d127_1 : decode prog_9_method_3_code 1 = .ok (.getfield 9, 3) := by decide +kernel
theorem d127_4 : decode prog_9_method_3_code 4 = .ok (.iconst 0, 1) := by decide +kernel
theorem d127_5 : decode prog_9_method_3_code 5 = .ok (.aload_n 0, 1) := by decide +kernel
theorem d127_6 : decode prog_9_method_3_code 6 = .ok (.getfield 9, 3) := by decide +kernel
theorem d127_9 : decode prog_9_method_3_code 9 = .ok (.iconst 0, 1) := by decide +kernel
theorem d127_10 : decode prog_9_method_3_code 10 = .ok (.sipush 700, 3) := by decide +kernel
theorem d127_13 : decode prog_9_method_3_code 13 = .ok (.invokestatic 37, 3) := by decide +kernel
theorem d127_16 : decode prog_9_method_3_code 16 = .ok (.aload_n 0, 1) := by decide +kernel
theorem d127_17 : decode prog_9_method_3_code 17 = .ok (.aload_n 1, 1) := by decide +kernel
theorem d127_18 : decode prog_9_method_3_code 18 = .ok (.getfield 15, 3) := by decide +kernel
theorem d127_21 : decode prog_9_method_3_code 21 = .ok (.putfield 15, 3) := by decide +kernel
theorem d127_24 : decode prog_9_method_3_code 24 = .ok (.aload_n 0, 1) := by decide +kernel
theorem d127_25 : decode prog_9_method_3_code 25 = .ok (.aload_n 1, 1) := by decide +kernel
theorem d127_26 : decode prog_9_method_3_code 26 = .ok (.getfield 19, 3) := by decide +kernel
theorem d127_29 : decode prog_9_method_3_code 29 = .ok (.putfield 19, 3) := by decide +kernel
theorem d127_32 : decode prog_9_method_3_code 32 = .ok (.aload_n 0, 1) := by decide +kernel
theorem d127_33 : decode prog_9_method_3_code 33 = .ok (.aload_n 1, 1) := by decide +kernel
theorem d127_34 : decode prog_9_method_3_code 34 = .ok (.getfield 22, 3) := by decide +kernel
theorem d127_37 : decode prog_9_method_3_code 37 = .ok (.putfield 22, 3) := by decide +kernel
theorem d127_40 : decode prog_9_method_3_code 40 = .ok (.aload_n 0, 1) := by decide +kernel
theorem d127_41 : decode prog_9_method_3_code 41 = .ok (.aload_n 1, 1) := by decide +kernel
theorem d127_42 : decode prog_9_method_3_code 42 = .ok (.getfield 25, 3) := by decide +kernel
theorem d127_45 : decode prog_9_method_3_code 45 = .ok (.putfield 25, 3) := by decide +kernel
theorem d127_48 : decode prog_9_method_3_code 48 = .ok (.aload_n 0, 1) := by decide +kernel
theorem d127_49 : decode prog_9_method_3_code 49 = .ok (.aload_n 1, 1) := by decide +kernel
theorem d127_50 : decode prog_9_method_3_code 50 = .ok (.getfield 28, 3) := by decide +kernel
theorem d127_53 : decode prog_9_method_3_code 53 = .ok (.putfield 28, 3) := by decide +kernel
theorem d127_56 : decode prog_9_method_3_code 56 = .ok (.return_, 1) := by decide +kernel
theorem b127 {X : mj_X} {d : Nat} {w : mj_W} {x0 : Nat} {x1 : Nat} : mj_call X d 127 [.ref x0, .ref x1] w = mj_exec X d 127 0 [some (.ref x0), some (.ref x1)] [] w := mw_ent mw_m127 (Nat.le_of_ble_eq_true rfl) rfl
theorem b127_0 {X : mj_X} {d : Nat} {s : mw_S} {k0 : Nat} {k1 : Nat} (h0 : mw_cl k0 = some 6) (h1 : mw_cl k1 = some 6) : mj_exec X d 127 0 [some (.ref k0), some (.ref k1)] [] (mw_U s) = if mw_cp 700 700 (nI 0) (nI 0) (nI 700) = true then some (.inl none, mw_U (mw_p (mw_p (mw_p (mw_p (mw_p (mw_c s (k1 + 1) (k0 + 1) ((nI 0)).toNatClampNeg ((nI 0)).toNatClampNeg ((nI 700)).toNatClampNeg) k0 1 ((mw_c s (k1 + 1) (k0 + 1) ((nI 0)).toNatClampNeg ((nI 0)).toNatClampNeg ((nI 700)).toNatClampNeg).1 k1 1)) k0 2 ((mw_p (mw_c s (k1 + 1) (k0 + 1) ((nI 0)).toNatClampNeg ((nI 0)).toNatClampNeg ((nI 700)).toNatClampNeg) k0 1 ((mw_c s (k1 + 1) (k0 + 1) ((nI 0)).toNatClampNeg ((nI 0)).toNatClampNeg ((nI 700)).toNatClampNeg).1 k1 1)).1 k1 2)) k0 3 ((mw_p (mw_p (mw_c s (k1 + 1) (k0 + 1) ((nI 0)).toNatClampNeg ((nI 0)).toNatClampNeg ((nI 700)).toNatClampNeg) k0 1 ((mw_c s (k1 + 1) (k0 + 1) ((nI 0)).toNatClampNeg ((nI 0)).toNatClampNeg ((nI 700)).toNatClampNeg).1 k1 1)) k0 2 ((mw_p (mw_c s (k1 + 1) (k0 + 1) ((nI 0)).toNatClampNeg ((nI 0)).toNatClampNeg ((nI 700)).toNatClampNeg) k0 1 ((mw_c s (k1 + 1) (k0 + 1) ((nI 0)).toNatClampNeg ((nI 0)).toNatClampNeg ((nI 700)).toNatClampNeg).1 k1 1)).1 k1 2)).1 k1 3)) k0 4 ((mw_p (mw_p (mw_p (mw_c s (k1 + 1) (k0 + 1) ((nI 0)).toNatClampNeg ((nI 0)).toNatClampNeg ((nI 700)).toNatClampNeg) k0 1 ((mw_c s (k1 + 1) (k0 + 1) ((nI 0)).toNatClampNeg ((nI 0)).toNatClampNeg ((nI 700)).toNatClampNeg).1 k1 1)) k0 2 ((mw_p (mw_c s (k1 + 1) (k0 + 1) ((nI 0)).toNatClampNeg ((nI 0)).toNatClampNeg ((nI 700)).toNatClampNeg) k0 1 ((mw_c s (k1 + 1) (k0 + 1) ((nI 0)).toNatClampNeg ((nI 0)).toNatClampNeg ((nI 700)).toNatClampNeg).1 k1 1)).1 k1 2)) k0 3 ((mw_p (mw_p (mw_c s (k1 + 1) (k0 + 1) ((nI 0)).toNatClampNeg ((nI 0)).toNatClampNeg ((nI 700)).toNatClampNeg) k0 1 ((mw_c s (k1 + 1) (k0 + 1) ((nI 0)).toNatClampNeg ((nI 0)).toNatClampNeg ((nI 700)).toNatClampNeg).1 k1 1)) k0 2 ((mw_p (mw_c s (k1 + 1) (k0 + 1) ((nI 0)).toNatClampNeg ((nI 0)).toNatClampNeg ((nI 700)).toNatClampNeg) k0 1 ((mw_c s (k1 + 1) (k0 + 1) ((nI 0)).toNatClampNeg ((nI 0)).toNatClampNeg ((nI 700)).toNatClampNeg).1 k1 1)).1 k1 2)).1 k1 3)).1 k1 4)) k0 5 ((mw_p (mw_p (mw_p (mw_p (mw_c s (k1 + 1) (k0 + 1) ((nI 0)).toNatClampNeg ((nI 0)).toNatClampNeg ((nI 700)).toNatClampNeg) k0 1 ((mw_c s (k1 + 1) (k0 + 1) ((nI 0)).toNatClampNeg ((nI 0)).toNatClampNeg ((nI 700)).toNatClampNeg).1 k1 1)) k0 2 ((mw_p (mw_c s (k1 + 1) (k0 + 1) ((nI 0)).toNatClampNeg ((nI 0)).toNatClampNeg ((nI 700)).toNatClampNeg) k0 1 ((mw_c s (k1 + 1) (k0 + 1) ((nI 0)).toNatClampNeg ((nI 0)).toNatClampNeg ((nI 700)).toNatClampNeg).1 k1 1)).1 k1 2)) k0 3 ((mw_p (mw_p (mw_c s (k1 + 1) (k0 + 1) ((nI 0)).toNatClampNeg ((nI 0)).toNatClampNeg ((nI 700)).toNatClampNeg) k0 1 ((mw_c s (k1 + 1) (k0 + 1) ((nI 0)).toNatClampNeg ((nI 0)).toNatClampNeg ((nI 700)).toNatClampNeg).1 k1 1)) k0 2 ((mw_p (mw_c s (k1 + 1) (k0 + 1) ((nI 0)).toNatClampNeg ((nI 0)).toNatClampNeg ((nI 700)).toNatClampNeg) k0 1 ((mw_c s (k1 + 1) (k0 + 1) ((nI 0)).toNatClampNeg ((nI 0)).toNatClampNeg ((nI 700)).toNatClampNeg).1 k1 1)).1 k1 2)).1 k1 3)) k0 4 ((mw_p (mw_p (mw_p (mw_c s (k1 + 1) (k0 + 1) ((nI 0)).toNatClampNeg ((nI 0)).toNatClampNeg ((nI 700)).toNatClampNeg) k0 1 ((mw_c s (k1 + 1) (k0 + 1) ((nI 0)).toNatClampNeg ((nI 0)).toNatClampNeg ((nI 700)).toNatClampNeg).1 k1 1)) k0 2 ((mw_p (mw_c s (k1 + 1) (k0 + 1) ((nI 0)).toNatClampNeg ((nI 0)).toNatClampNeg ((nI 700)).toNatClampNeg) k0 1 ((mw_c s (k1 + 1) (k0 + 1) ((nI 0)).toNatClampNeg ((nI 0)).toNatClampNeg ((nI 700)).toNatClampNeg).1 k1 1)).1 k1 2)) k0 3 ((mw_p (mw_p (mw_c s (k1 + 1) (k0 + 1) ((nI 0)).toNatClampNeg ((nI 0)).toNatClampNeg ((nI 700)).toNatClampNeg) k0 1 ((mw_c s (k1 + 1) (k0 + 1) ((nI 0)).toNatClampNeg ((nI 0)).toNatClampNeg ((nI 700)).toNatClampNeg).1 k1 1)) k0 2 ((mw_p (mw_c s (k1 + 1) (k0 + 1) ((nI 0)).toNatClampNeg ((nI 0)).toNatClampNeg ((nI 700)).toNatClampNeg) k0 1 ((mw_c s (k1 + 1) (k0 + 1) ((nI 0)).toNatClampNeg ((nI 0)).toNatClampNeg ((nI 700)).toNatClampNeg).1 k1 1)).1 k1 2)).1 k1 3)).1 k1 4)).1 k1 5))) else none := (mj_q_aload_n mw_m127 d127_0 rfl (mw_neo h1)).trans ((mw_q_getr mw_m127 d127_1 mw_p6_9 h1 (mw_f6_0 h1)).trans ((mj_q_iconst mw_m127 d127_4 mw_k_iconst_0).trans ((mj_q_aload_n mw_m127 d127_5 rfl (mw_neo h0)).trans ((mw_q_getr mw_m127 d127_6 mw_p6_9 h0 (mw_f6_0 h0)).trans ((mj_q_iconst mw_m127 d127_9 mw_k_iconst_0).trans ((mj_q_sipush mw_m127 d127_10 mw_k_sipush_700).trans ((mw_h_copy mw_m127 d127_13 mw_p6_37 (mw_a6_0 h1) (mw_a6_0 h0) (Nat.le_of_ble_eq_true rfl)).trans (mw_g ((mj_q_aload_n mw_m127 d127_16 rfl (mw_neo h0)).trans ((mj_q_aload_n mw_m127 d127_17 rfl (mw_neo h1)).trans ((mw_q_geti mw_m127 d127_18 mw_p6_15 h1 (mw_f6_1 h1)).trans ((mw_q_puti mw_m127 d127_21 mw_p6_15 h0 (mw_f6_1 h0) (by decide) rfl (.inl rfl)).trans ((mj_q_aload_n mw_m127 d127_24 rfl (mw_neo h0)).trans ((mj_q_aload_n mw_m127 d127_25 rfl (mw_neo h1)).trans ((mw_q_geti mw_m127 d127_26 mw_p6_19 h1 (mw_f6_2 h1)).trans ((mw_q_puti mw_m127 d127_29 mw_p6_19 h0 (mw_f6_2 h0) (by decide) rfl (.inl rfl)).trans ((mj_q_aload_n mw_m127 d127_32 rfl (mw_neo h0)).trans ((mj_q_aload_n mw_m127 d127_33 rfl (mw_neo h1)).trans ((mw_q_geti mw_m127 d127_34 mw_p6_22 h1 (mw_f6_3 h1)).trans ((mw_q_puti mw_m127 d127_37 mw_p6_22 h0 (mw_f6_3 h0) (by decide) rfl (.inl rfl)).trans ((mj_q_aload_n mw_m127 d127_40 rfl (mw_neo h0)).trans ((mj_q_aload_n mw_m127 d127_41 rfl (mw_neo h1)).trans ((mw_q_geti mw_m127 d127_42 mw_p6_25 h1 (mw_f6_4 h1)).trans ((mw_q_puti mw_m127 d127_45 mw_p6_25 h0 (mw_f6_4 h0) (by decide) rfl (.inl rfl)).trans ((mj_q_aload_n mw_m127 d127_48 rfl (mw_neo h0)).trans ((mj_q_aload_n mw_m127 d127_49 rfl (mw_neo h1)).trans ((mw_q_geti mw_m127 d127_50 mw_p6_28 h1 (mw_f6_5 h1)).trans ((mw_q_puti mw_m127 d127_53 mw_p6_28 h0 (mw_f6_5 h0) (by decide) rfl (.inl rfl)).trans (mj_q_vret mw_m127 d127_56 rfl)))))))))))))))))))))))))))))
/-- WivesQuarrels$Rules.wouldCut -/
theorem d128_0 : decode prog_9_method_13_code 0 = .ok (.aload_n 0, 1) := by decide +kernel
theorem d128_1 : decode prog_9_method_13_code 1 = .ok (.aload_n 1, 1) := by decide +kernel
theorem d128_2 : decode prog_9_method_13_code 2 = .ok (.iload_n 2, 1) := by decide +kernel
theorem d128_3 : decode prog_9_method_13_code 3 = .ok (.invokevirtual 56, 3) := by decide +kernel
theorem d128_6 : decode prog_9_method_13_code 6 = .ok (.aload_n 0, 1) := by decide +kernel
theorem d128_7 : decode prog_9_method_13_code 7 = .ok (.invokevirtual 77, 3) := by decide +kernel
theorem d128_10 : decode prog_9_method_13_code 10 = .ok (.ireturn, 1) := by decide +kernel
theorem b128 {X : mj_X} {d : Nat} {w : mj_W} {x0 : Nat} {x1 : Nat} {x2 : Int32} : mj_call X d 128 [.ref x0, .ref x1, .int x2] w = mj_exec X d 128 0 [some (.ref x0), some (.ref x1), some (.int x2)] [] w := mw_ent mw_m128 (Nat.le_of_ble_eq_true rfl) rfl
theorem b128_0 {X : mj_X} {d : Nat} {s : mw_S} {k0 : Nat} {k1 : Nat} {x2 : Int32} (h0 : mw_cl k0 = some 6) (h1 : mw_cl k1 = some 3) : mj_exec X (d + 1) 128 0 [some (.ref k0), some (.ref k1), some (.int x2)] [] (mw_U s) = (mj_call X d 114 [.ref k0, .ref k1, .int x2] (mw_U s)).bind (mj_bk X (d + 1) 128 6 [some (.ref k0), some (.ref k1), some (.int x2)] []) := (mj_q_aload_n mw_m128 d128_0 rfl (mw_neo h0)).trans ((mj_q_aload_n mw_m128 d128_1 rfl (mw_neo h1)).trans ((mj_q_iload_n mw_m128 d128_2 rfl).trans (mw_q_callv mw_m128 rfl d128_3 mw_p6_56 mw_m114 rfl rfl (Nat.le_of_ble_eq_true rfl) (Nat.le_of_ble_eq_true rfl) rfl (mw_rcv h0) rfl rfl)))
theorem b128_6 {X : mj_X} {d : Nat} {s : mw_S} {k0 : Nat} {k1 : Nat} {x2 : Int32} (h0 : mw_cl k0 = some 6) (h1 : mw_cl k1 = some 3) : mj_exec X (d + 1) 128 6 [some (.ref k0), some (.ref k1), some (.int x2)] [] (mw_U s) = (mj_call X d 119 [.ref k0] (mw_U s)).bind (mj_bk X (d + 1) 128 10 [some (.ref k0), some (.ref k1), some (.int x2)] []) := (mj_q_aload_n mw_m128 d128_6 rfl (mw_neo h0)).trans (mw_q_callv mw_m128 rfl d128_7 mw_p6_77 mw_m119 rfl rfl (Nat.le_of_ble_eq_true rfl) (Nat.le_of_ble_eq_true rfl) rfl (mw_rcv h0) rfl rfl)
theorem b128_10 {X : mj_X} {d : Nat} {s : mw_S} {k0 : Nat} {k1 : Nat} {x2 : Int32} {xs0 : Int32} (h0 : mw_cl k0 = some 6) (h1 : mw_cl k1 = some 3) : mj_exec X d 128 10 [some (.ref k0), some (.ref k1), some (.int x2)] [.int xs0] (mw_U s) = if mj_rfit (some .boolean) xs0 = true then some (.inl (some (.int xs0)), mw_U s) else none := mw_h_iret mw_m128 d128_10 rfl
