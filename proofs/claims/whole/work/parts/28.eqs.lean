/-! the equations of the instructions -/
section MJQ
variable {X : mj_X} {d y pc : Nat} {L : mj_L} {st r : List Value} {w : mj_W} {M : mj_M}
/-- what follows a call of a method without handlers -/
noncomputable def mj_bk (X : mj_X) (d y pc : Nat) (L : mj_L) (rest : List Value) (q : mj_O × mj_W) : Option (mj_O × mj_W) := match q with
  | (.inl v, w') => mj_exec X d y pc L (v.toList ++ rest) w'
  | (.inr e, w') => some (.inr e, w')
theorem mj_bk_i {v : Value} : (some ((.inl (some v) : mj_O), w)).bind (mj_bk X d y pc L r) = mj_exec X d y pc L (v :: r) w := rfl
theorem mj_bk_v : (some ((.inl none : mj_O), w)).bind (mj_bk X d y pc L r) = mj_exec X d y pc L r w := rfl
theorem mj_bk_x {e : Nat} : (some ((.inr e : mj_O), w)).bind (mj_bk X d y pc L r) = some (.inr e, w) := rfl
theorem mj_xi {pc2 : Nat} {L2 : mj_L} {st2 : List Value} {w2 : mj_W} {i : Instr} {len : Nat} (hM : mj_meth y = some M) (hd : decode M.2.1 pc = .ok (i, len)) (hs : mj_step X M i len pc L st w = some (.inl (pc2, L2, st2, w2))) : mj_exec X d y pc L st w = mj_exec X d y pc2 L2 st2 w2 := mj_exec_inl hM hd hs
theorem mj_q_iconst (hM : mj_meth y = some M) {n : Int} {v : Int32} (hd : decode M.2.1 pc = .ok (.iconst n, 1)) (hv : Int32.ofInt n = v) : mj_exec X d y pc L st w = mj_exec X d y (pc + 1) L (.int v :: st) w := by subst hv; exact mj_xi hM hd rfl
theorem mj_q_bipush (hM : mj_meth y = some M) {n : Int} {v : Int32} (hd : decode M.2.1 pc = .ok (.bipush n, 2)) (hv : (Int8.ofInt n).toInt32 = v) : mj_exec X d y pc L st w = mj_exec X d y (pc + 2) L (.int v :: st) w := by subst hv; exact mj_xi hM hd rfl
theorem mj_q_sipush (hM : mj_meth y = some M) {n : Int} {v : Int32} (hd : decode M.2.1 pc = .ok (.sipush n, 3)) (hv : (Int16.ofInt n).toInt32 = v) : mj_exec X d y pc L st w = mj_exec X d y (pc + 3) L (.int v :: st) w := by subst hv; exact mj_xi hM hd rfl
theorem mj_q_lconst (hM : mj_meth y = some M) {n : Fin 2} {v : Int64} (hd : decode M.2.1 pc = .ok (.lconst n, 1)) (hv : Int64.ofNat (n : Nat) = v) : mj_exec X d y pc L st w = mj_exec X d y (pc + 1) L (.long v :: st) w := by subst hv; exact mj_xi hM hd rfl
theorem mj_q_iload (hM : mj_meth y = some M) {k : Nat} {x : Int32} (hd : decode M.2.1 pc = .ok (.iload k, 2)) (hl : L[k]? = some (some (.int x))) : mj_exec X d y pc L st w = mj_exec X d y (pc + 2) L (.int x :: st) w := mj_xi hM hd (show (if 2 = 2 then mj_ldi (pc + 2) L st w k else none) = _ by simp only [mj_ldi, hl, if_true])
theorem mj_q_iload_n (hM : mj_meth y = some M) {k : Fin 4} {x : Int32} (hd : decode M.2.1 pc = .ok (.iload_n k, 1)) (hl : L[(k : Nat)]? = some (some (.int x))) : mj_exec X d y pc L st w = mj_exec X d y (pc + 1) L (.int x :: st) w := mj_xi hM hd (show (if 1 = 1 then mj_ldi (pc + 1) L st w k else none) = _ by simp only [mj_ldi, hl, if_true])
theorem mj_q_lload (hM : mj_meth y = some M) {k : Nat} {x : Int64} (hd : decode M.2.1 pc = .ok (.lload k, 2)) (hl : L[k]? = some (some (.long x))) : mj_exec X d y pc L st w = mj_exec X d y (pc + 2) L (.long x :: st) w := mj_xi hM hd (show (if 2 = 2 then mj_ldl (pc + 2) L st w k else none) = _ by simp only [mj_ldl, hl, if_true])
theorem mj_q_lload_n (hM : mj_meth y = some M) {k : Fin 4} {x : Int64} (hd : decode M.2.1 pc = .ok (.lload_n k, 1)) (hl : L[(k : Nat)]? = some (some (.long x))) : mj_exec X d y pc L st w = mj_exec X d y (pc + 1) L (.long x :: st) w := mj_xi hM hd (show (if 1 = 1 then mj_ldl (pc + 1) L st w k else none) = _ by simp only [mj_ldl, hl, if_true])
theorem mj_q_aload (hM : mj_meth y = some M) {k x : Nat} (hd : decode M.2.1 pc = .ok (.aload k, 2)) (hl : L[k]? = some (some (.ref x))) (hx : x ≠ 1000300) : mj_exec X d y pc L st w = mj_exec X d y (pc + 2) L (.ref x :: st) w := mj_xi hM hd (show (if 2 = 2 then mj_lda (pc + 2) L st w k else none) = _ by simp only [mj_lda, hl, if_true, if_neg hx])
theorem mj_q_aload_n (hM : mj_meth y = some M) {k : Fin 4} {x : Nat} (hd : decode M.2.1 pc = .ok (.aload_n k, 1)) (hl : L[(k : Nat)]? = some (some (.ref x))) (hx : x ≠ 1000300) : mj_exec X d y pc L st w = mj_exec X d y (pc + 1) L (.ref x :: st) w := mj_xi hM hd (show (if 1 = 1 then mj_lda (pc + 1) L st w k else none) = _ by simp only [mj_lda, hl, if_true, if_neg hx])
theorem mj_q_istore (hM : mj_meth y = some M) {k : Nat} {x : Int32} {L2 : mj_L} (hd : decode M.2.1 pc = .ok (.istore k, 2)) (hk : k < L.length) (ho : mj_ok1 L k = true) (h2 : L.set k (some (.int x)) = L2) : mj_exec X d y pc L (.int x :: r) w = mj_exec X d y (pc + 2) L2 r w := by subst h2; exact mj_xi hM hd (show (if 2 = 2 then mj_sti (pc + 2) L (.int x :: r) w k else none) = _ by simp only [mj_sti, mj_sto, if_pos hk, ho, if_true])
theorem mj_q_istore_n (hM : mj_meth y = some M) {k : Fin 4} {x : Int32} {L2 : mj_L} (hd : decode M.2.1 pc = .ok (.istore_n k, 1)) (hk : (k : Nat) < L.length) (ho : mj_ok1 L k = true) (h2 : L.set k (some (.int x)) = L2) : mj_exec X d y pc L (.int x :: r) w = mj_exec X d y (pc + 1) L2 r w := by subst h2; exact mj_xi hM hd (show (if 1 = 1 then mj_sti (pc + 1) L (.int x :: r) w k else none) = _ by simp only [mj_sti, mj_sto, if_pos hk, ho, if_true])
theorem mj_q_astore (hM : mj_meth y = some M) {k : Nat} {x : Nat} {L2 : mj_L} (hd : decode M.2.1 pc = .ok (.astore k, 2)) (hk : k < L.length) (ho : mj_ok1 L k = true) (h2 : L.set k (some (.ref x)) = L2) (hx : x ≠ 1000300) : mj_exec X d y pc L (.ref x :: r) w = mj_exec X d y (pc + 2) L2 r w := by subst h2; exact mj_xi hM hd (show (if 2 = 2 then mj_sta (pc + 2) L (.ref x :: r) w k else none) = _ by simp only [mj_sta, mj_sto, if_pos hk, ho, if_true, if_neg hx])
theorem mj_q_astore_n (hM : mj_meth y = some M) {k : Fin 4} {x : Nat} {L2 : mj_L} (hd : decode M.2.1 pc = .ok (.astore_n k, 1)) (hk : (k : Nat) < L.length) (ho : mj_ok1 L k = true) (h2 : L.set k (some (.ref x)) = L2) (hx : x ≠ 1000300) : mj_exec X d y pc L (.ref x :: r) w = mj_exec X d y (pc + 1) L2 r w := by subst h2; exact mj_xi hM hd (show (if 1 = 1 then mj_sta (pc + 1) L (.ref x :: r) w k else none) = _ by simp only [mj_sta, mj_sto, if_pos hk, ho, if_true, if_neg hx])
theorem mj_q_iinc (hM : mj_meth y = some M) {k : Nat} {n : Int} {x v : Int32} {L2 : mj_L} (hd : decode M.2.1 pc = .ok (.iinc k n, 3)) (hl : L[k]? = some (some (.int x))) (hk : k < L.length) (ho : mj_ok1 L k = true) (hv : Int32.ofInt n = v) (h2 : L.set k (some (.int (x + v))) = L2) : mj_exec X d y pc L st w = mj_exec X d y (pc + 3) L2 st w := by subst hv; subst h2; exact mj_xi hM hd (show (if 3 = 3 then (match L[k]? with | some (some (.int x)) => mj_sto (pc + 3) L st w k (.int (x + Int32.ofInt n)) | _ => none) else none) = _ by simp only [hl, mj_sto, if_pos hk, ho, if_true])
theorem mj_q_iadd (hM : mj_meth y = some M) {x z : Int32} (hd : decode M.2.1 pc = .ok (.iadd, 1)) : mj_exec X d y pc L (.int z :: .int x :: r) w = mj_exec X d y (pc + 1) L (.int (x + z) :: r) w := mj_xi hM hd rfl
theorem mj_q_isub (hM : mj_meth y = some M) {x z : Int32} (hd : decode M.2.1 pc = .ok (.isub, 1)) : mj_exec X d y pc L (.int z :: .int x :: r) w = mj_exec X d y (pc + 1) L (.int (x - z) :: r) w := mj_xi hM hd rfl
theorem mj_q_imul (hM : mj_meth y = some M) {x z : Int32} (hd : decode M.2.1 pc = .ok (.imul, 1)) : mj_exec X d y pc L (.int z :: .int x :: r) w = mj_exec X d y (pc + 1) L (.int (x * z) :: r) w := mj_xi hM hd rfl
theorem mj_q_iand (hM : mj_meth y = some M) {x z : Int32} (hd : decode M.2.1 pc = .ok (.iand, 1)) : mj_exec X d y pc L (.int z :: .int x :: r) w = mj_exec X d y (pc + 1) L (.int (x &&& z) :: r) w := mj_xi hM hd rfl
theorem mj_q_ior (hM : mj_meth y = some M) {x z : Int32} (hd : decode M.2.1 pc = .ok (.ior, 1)) : mj_exec X d y pc L (.int z :: .int x :: r) w = mj_exec X d y (pc + 1) L (.int (x ||| z) :: r) w := mj_xi hM hd rfl
theorem mj_q_ixor (hM : mj_meth y = some M) {x z : Int32} (hd : decode M.2.1 pc = .ok (.ixor, 1)) : mj_exec X d y pc L (.int z :: .int x :: r) w = mj_exec X d y (pc + 1) L (.int (x ^^^ z) :: r) w := mj_xi hM hd rfl
theorem mj_q_ishl (hM : mj_meth y = some M) {x z : Int32} (hd : decode M.2.1 pc = .ok (.ishl, 1)) : mj_exec X d y pc L (.int z :: .int x :: r) w = mj_exec X d y (pc + 1) L (.int (x <<< (z &&& 31)) :: r) w := mj_xi hM hd rfl
theorem mj_q_ishr (hM : mj_meth y = some M) {x z : Int32} (hd : decode M.2.1 pc = .ok (.ishr, 1)) : mj_exec X d y pc L (.int z :: .int x :: r) w = mj_exec X d y (pc + 1) L (.int (x >>> (z &&& 31)) :: r) w := mj_xi hM hd rfl
theorem mj_q_iushr (hM : mj_meth y = some M) {x z : Int32} (hd : decode M.2.1 pc = .ok (.iushr, 1)) : mj_exec X d y pc L (.int z :: .int x :: r) w = mj_exec X d y (pc + 1) L (.int ((x.toUInt32 >>> (z.toUInt32 &&& Int32.toUInt32 31)).toInt32) :: r) w := mj_xi hM hd rfl
theorem mj_q_idiv (hM : mj_meth y = some M) {x z : Int32} (hd : decode M.2.1 pc = .ok (.idiv, 1)) (hz : ¬ z = 0) : mj_exec X d y pc L (.int z :: .int x :: r) w = mj_exec X d y (pc + 1) L (.int (x / z) :: r) w := mj_xi hM hd (show (if 1 = 1 then (if z = 0 then none else mj_bin (fun x y => x / y) pc L (.int z :: .int x :: r) w) else none) = _ by rw [if_pos rfl, if_neg hz]; rfl)
theorem mj_q_irem (hM : mj_meth y = some M) {x z : Int32} (hd : decode M.2.1 pc = .ok (.irem, 1)) (hz : ¬ z = 0) : mj_exec X d y pc L (.int z :: .int x :: r) w = mj_exec X d y (pc + 1) L (.int (x - x / z * z) :: r) w := mj_xi hM hd (show (if 1 = 1 then (if z = 0 then none else mj_bin (fun x y => x - x / y * y) pc L (.int z :: .int x :: r) w) else none) = _ by rw [if_pos rfl, if_neg hz]; rfl)
theorem mj_q_ineg (hM : mj_meth y = some M) {x : Int32} (hd : decode M.2.1 pc = .ok (.ineg, 1)) : mj_exec X d y pc L (.int x :: r) w = mj_exec X d y (pc + 1) L (.int (-x) :: r) w := mj_xi hM hd rfl
theorem mj_q_i2b (hM : mj_meth y = some M) {x : Int32} (hd : decode M.2.1 pc = .ok (.i2b, 1)) : mj_exec X d y pc L (.int x :: r) w = mj_exec X d y (pc + 1) L (.int (x.toInt8.toInt32) :: r) w := mj_xi hM hd rfl
theorem mj_q_i2c (hM : mj_meth y = some M) {x : Int32} (hd : decode M.2.1 pc = .ok (.i2c, 1)) : mj_exec X d y pc L (.int x :: r) w = mj_exec X d y (pc + 1) L (.int ((x.toUInt32 % 65536).toInt32) :: r) w := mj_xi hM hd rfl
theorem mj_q_i2l (hM : mj_meth y = some M) {x : Int32} (hd : decode M.2.1 pc = .ok (.i2l, 1)) : mj_exec X d y pc L (.int x :: r) w = mj_exec X d y (pc + 1) L (.long x.toInt64 :: r) w := mj_xi hM hd rfl
theorem mj_q_l2i (hM : mj_meth y = some M) {x : Int64} (hd : decode M.2.1 pc = .ok (.l2i, 1)) : mj_exec X d y pc L (.long x :: r) w = mj_exec X d y (pc + 1) L (.int x.toInt32 :: r) w := mj_xi hM hd rfl
theorem mj_q_ladd (hM : mj_meth y = some M) {x z : Int64} (hd : decode M.2.1 pc = .ok (.ladd, 1)) : mj_exec X d y pc L (.long z :: .long x :: r) w = mj_exec X d y (pc + 1) L (.long (x + z) :: r) w := mj_xi hM hd rfl
theorem mj_q_lsub (hM : mj_meth y = some M) {x z : Int64} (hd : decode M.2.1 pc = .ok (.lsub, 1)) : mj_exec X d y pc L (.long z :: .long x :: r) w = mj_exec X d y (pc + 1) L (.long (x - z) :: r) w := mj_xi hM hd rfl
theorem mj_q_land (hM : mj_meth y = some M) {x z : Int64} (hd : decode M.2.1 pc = .ok (.land, 1)) : mj_exec X d y pc L (.long z :: .long x :: r) w = mj_exec X d y (pc + 1) L (.long (x &&& z) :: r) w := mj_xi hM hd rfl
theorem mj_q_lor (hM : mj_meth y = some M) {x z : Int64} (hd : decode M.2.1 pc = .ok (.lor, 1)) : mj_exec X d y pc L (.long z :: .long x :: r) w = mj_exec X d y (pc + 1) L (.long (x ||| z) :: r) w := mj_xi hM hd rfl
theorem mj_q_lshl (hM : mj_meth y = some M) {x : Int64} {z : Int32} (hd : decode M.2.1 pc = .ok (.lshl, 1)) : mj_exec X d y pc L (.int z :: .long x :: r) w = mj_exec X d y (pc + 1) L (.long (x <<< (z.toInt64 &&& 63)) :: r) w := mj_xi hM hd rfl
theorem mj_q_lushr (hM : mj_meth y = some M) {x : Int64} {z : Int32} (hd : decode M.2.1 pc = .ok (.lushr, 1)) : mj_exec X d y pc L (.int z :: .long x :: r) w = mj_exec X d y (pc + 1) L (.long (x.toUInt64 >>> (z.toInt64.toUInt64 &&& Int64.toUInt64 63)).toInt64 :: r) w := mj_xi hM hd rfl
theorem mj_q_lcmp (hM : mj_meth y = some M) {x z : Int64} (hd : decode M.2.1 pc = .ok (.lcmp, 1)) : mj_exec X d y pc L (.long z :: .long x :: r) w = mj_exec X d y (pc + 1) L (.int (lg_cmp x z) :: r) w := mj_xi hM hd rfl
theorem mj_q_dup (hM : mj_meth y = some M) {v : Value} (hd : decode M.2.1 pc = .ok (.dup, 1)) (hv : v.category = 1) : mj_exec X d y pc L (v :: r) w = mj_exec X d y (pc + 1) L (v :: v :: r) w := mj_xi hM hd (show (if 1 = 1 then (if v.category = 1 then mj_nx (pc + 1) L (v :: v :: r) w else none) else none) = _ by rw [if_pos rfl, if_pos hv])
theorem mj_q_pop (hM : mj_meth y = some M) {v : Value} (hd : decode M.2.1 pc = .ok (.pop, 1)) (hv : v.category = 1) : mj_exec X d y pc L (v :: r) w = mj_exec X d y (pc + 1) L r w := mj_xi hM hd (show (if 1 = 1 then (if v.category = 1 then mj_nx (pc + 1) L r w else none) else none) = _ by rw [if_pos rfl, if_pos hv])
theorem mj_q_dup2 (hM : mj_meth y = some M) {a b : Value} (hd : decode M.2.1 pc = .ok (.dup2, 1)) (ha : a.category = 1) (hb : b.category = 1) : mj_exec X d y pc L (a :: b :: r) w = mj_exec X d y (pc + 1) L (a :: b :: a :: b :: r) w := mj_xi hM hd (show (if 1 = 1 then (if a.category = 1 ∧ b.category = 1 then mj_nx (pc + 1) L (a :: b :: a :: b :: r) w else none) else none) = _ by rw [if_pos rfl, if_pos ⟨ha, hb⟩])
theorem mj_q_goto (hM : mj_meth y = some M) {off : Int} {tgt : Nat} (hd : decode M.2.1 pc = .ok (.goto off, 3)) (ht : (pc : Int) + off = (tgt : Int)) : mj_exec X d y pc L st w = mj_exec X d y tgt L st w := mj_xi hM hd (show (if 3 = 3 then mj_jmp pc off L st w else none) = some (.inl (tgt, L, st, w)) by rw [if_pos rfl, mj_jmp, ht, if_pos (Int.natCast_nonneg _), Int.toNat_natCast])
theorem mj_if_t {b : Bool} {off : Int} {tgt : Nat} (ht : (pc : Int) + off = (tgt : Int)) : mj_if b pc off L st w = if b = true then some (.inl (tgt, L, st, w)) else some (.inl (pc + 3, L, st, w)) := by
  unfold mj_if
  rw [ht, if_pos (Int.natCast_nonneg _), Int.toNat_natCast]
theorem mj_q_if_eq (hM : mj_meth y = some M) {x : Int32} {off : Int} {tgt : Nat} (hd : decode M.2.1 pc = .ok (.ifCond .eq off, 3)) (ht : (pc : Int) + off = (tgt : Int)) : mj_exec X d y pc L (.int x :: r) w = if x = 0 then mj_exec X d y tgt L r w else mj_exec X d y (pc + 3) L r w := by
  have h0 : mj_step X M (.ifCond .eq off) 3 pc L (.int x :: r) w = mj_if (mj_cmp .eq x 0) pc off L r w := rfl
  rw [mj_if_t ht] at h0
  by_cases hc : x = 0
  · rw [if_pos hc]
    exact mj_xi hM hd (h0.trans (by simp [mj_cmp, hc]))
  · rw [if_neg hc]
    exact mj_xi hM hd (h0.trans (by simp [mj_cmp, hc]))
theorem mj_q_icmp_eq (hM : mj_meth y = some M) {x z : Int32} {off : Int} {tgt : Nat} (hd : decode M.2.1 pc = .ok (.if_icmp .eq off, 3)) (ht : (pc : Int) + off = (tgt : Int)) : mj_exec X d y pc L (.int z :: .int x :: r) w = if x = z then mj_exec X d y tgt L r w else mj_exec X d y (pc + 3) L r w := by
  have h0 : mj_step X M (.if_icmp .eq off) 3 pc L (.int z :: .int x :: r) w = mj_if (mj_cmp .eq x z) pc off L r w := rfl
  rw [mj_if_t ht] at h0
  by_cases hc : x = z
  · rw [if_pos hc]
    exact mj_xi hM hd (h0.trans (by simp [mj_cmp, hc]))
  · rw [if_neg hc]
    exact mj_xi hM hd (h0.trans (by simp [mj_cmp, hc]))
theorem mj_q_if_ne (hM : mj_meth y = some M) {x : Int32} {off : Int} {tgt : Nat} (hd : decode M.2.1 pc = .ok (.ifCond .ne off, 3)) (ht : (pc : Int) + off = (tgt : Int)) : mj_exec X d y pc L (.int x :: r) w = if x = 0 then mj_exec X d y (pc + 3) L r w else mj_exec X d y tgt L r w := by
  have h0 : mj_step X M (.ifCond .ne off) 3 pc L (.int x :: r) w = mj_if (mj_cmp .ne x 0) pc off L r w := rfl
  rw [mj_if_t ht] at h0
  by_cases hc : x = 0
  · rw [if_pos hc]
    exact mj_xi hM hd (h0.trans (by simp [mj_cmp, hc]))
  · rw [if_neg hc]
    exact mj_xi hM hd (h0.trans (by simp [mj_cmp, hc]))
theorem mj_q_icmp_ne (hM : mj_meth y = some M) {x z : Int32} {off : Int} {tgt : Nat} (hd : decode M.2.1 pc = .ok (.if_icmp .ne off, 3)) (ht : (pc : Int) + off = (tgt : Int)) : mj_exec X d y pc L (.int z :: .int x :: r) w = if x = z then mj_exec X d y (pc + 3) L r w else mj_exec X d y tgt L r w := by
  have h0 : mj_step X M (.if_icmp .ne off) 3 pc L (.int z :: .int x :: r) w = mj_if (mj_cmp .ne x z) pc off L r w := rfl
  rw [mj_if_t ht] at h0
  by_cases hc : x = z
  · rw [if_pos hc]
    exact mj_xi hM hd (h0.trans (by simp [mj_cmp, hc]))
  · rw [if_neg hc]
    exact mj_xi hM hd (h0.trans (by simp [mj_cmp, hc]))
theorem mj_q_if_lt (hM : mj_meth y = some M) {x : Int32} {off : Int} {tgt : Nat} (hd : decode M.2.1 pc = .ok (.ifCond .lt off, 3)) (ht : (pc : Int) + off = (tgt : Int)) : mj_exec X d y pc L (.int x :: r) w = if x < 0 then mj_exec X d y tgt L r w else mj_exec X d y (pc + 3) L r w := by
  have h0 : mj_step X M (.ifCond .lt off) 3 pc L (.int x :: r) w = mj_if (mj_cmp .lt x 0) pc off L r w := rfl
  rw [mj_if_t ht] at h0
  by_cases hc : x < 0
  · rw [if_pos hc]
    exact mj_xi hM hd (h0.trans (by simp [mj_cmp, hc]))
  · rw [if_neg hc]
    exact mj_xi hM hd (h0.trans (by simp [mj_cmp, hc]))
theorem mj_q_icmp_lt (hM : mj_meth y = some M) {x z : Int32} {off : Int} {tgt : Nat} (hd : decode M.2.1 pc = .ok (.if_icmp .lt off, 3)) (ht : (pc : Int) + off = (tgt : Int)) : mj_exec X d y pc L (.int z :: .int x :: r) w = if x < z then mj_exec X d y tgt L r w else mj_exec X d y (pc + 3) L r w := by
  have h0 : mj_step X M (.if_icmp .lt off) 3 pc L (.int z :: .int x :: r) w = mj_if (mj_cmp .lt x z) pc off L r w := rfl
  rw [mj_if_t ht] at h0
  by_cases hc : x < z
  · rw [if_pos hc]
    exact mj_xi hM hd (h0.trans (by simp [mj_cmp, hc]))
  · rw [if_neg hc]
    exact mj_xi hM hd (h0.trans (by simp [mj_cmp, hc]))
theorem mj_q_if_ge (hM : mj_meth y = some M) {x : Int32} {off : Int} {tgt : Nat} (hd : decode M.2.1 pc = .ok (.ifCond .ge off, 3)) (ht : (pc : Int) + off = (tgt : Int)) : mj_exec X d y pc L (.int x :: r) w = if 0 ≤ x then mj_exec X d y tgt L r w else mj_exec X d y (pc + 3) L r w := by
  have h0 : mj_step X M (.ifCond .ge off) 3 pc L (.int x :: r) w = mj_if (mj_cmp .ge x 0) pc off L r w := rfl
  rw [mj_if_t ht] at h0
  by_cases hc : 0 ≤ x
  · rw [if_pos hc]
    exact mj_xi hM hd (h0.trans (by simp [mj_cmp, hc]))
  · rw [if_neg hc]
    exact mj_xi hM hd (h0.trans (by simp [mj_cmp, hc]))
theorem mj_q_icmp_ge (hM : mj_meth y = some M) {x z : Int32} {off : Int} {tgt : Nat} (hd : decode M.2.1 pc = .ok (.if_icmp .ge off, 3)) (ht : (pc : Int) + off = (tgt : Int)) : mj_exec X d y pc L (.int z :: .int x :: r) w = if z ≤ x then mj_exec X d y tgt L r w else mj_exec X d y (pc + 3) L r w := by
  have h0 : mj_step X M (.if_icmp .ge off) 3 pc L (.int z :: .int x :: r) w = mj_if (mj_cmp .ge x z) pc off L r w := rfl
  rw [mj_if_t ht] at h0
  by_cases hc : z ≤ x
  · rw [if_pos hc]
    exact mj_xi hM hd (h0.trans (by simp [mj_cmp, hc]))
  · rw [if_neg hc]
    exact mj_xi hM hd (h0.trans (by simp [mj_cmp, hc]))
theorem mj_q_if_gt (hM : mj_meth y = some M) {x : Int32} {off : Int} {tgt : Nat} (hd : decode M.2.1 pc = .ok (.ifCond .gt off, 3)) (ht : (pc : Int) + off = (tgt : Int)) : mj_exec X d y pc L (.int x :: r) w = if 0 < x then mj_exec X d y tgt L r w else mj_exec X d y (pc + 3) L r w := by
  have h0 : mj_step X M (.ifCond .gt off) 3 pc L (.int x :: r) w = mj_if (mj_cmp .gt x 0) pc off L r w := rfl
  rw [mj_if_t ht] at h0
  by_cases hc : 0 < x
  · rw [if_pos hc]
    exact mj_xi hM hd (h0.trans (by simp [mj_cmp, hc]))
  · rw [if_neg hc]
    exact mj_xi hM hd (h0.trans (by simp [mj_cmp, hc]))
theorem mj_q_icmp_gt (hM : mj_meth y = some M) {x z : Int32} {off : Int} {tgt : Nat} (hd : decode M.2.1 pc = .ok (.if_icmp .gt off, 3)) (ht : (pc : Int) + off = (tgt : Int)) : mj_exec X d y pc L (.int z :: .int x :: r) w = if z < x then mj_exec X d y tgt L r w else mj_exec X d y (pc + 3) L r w := by
  have h0 : mj_step X M (.if_icmp .gt off) 3 pc L (.int z :: .int x :: r) w = mj_if (mj_cmp .gt x z) pc off L r w := rfl
  rw [mj_if_t ht] at h0
  by_cases hc : z < x
  · rw [if_pos hc]
    exact mj_xi hM hd (h0.trans (by simp [mj_cmp, hc]))
  · rw [if_neg hc]
    exact mj_xi hM hd (h0.trans (by simp [mj_cmp, hc]))
theorem mj_q_if_le (hM : mj_meth y = some M) {x : Int32} {off : Int} {tgt : Nat} (hd : decode M.2.1 pc = .ok (.ifCond .le off, 3)) (ht : (pc : Int) + off = (tgt : Int)) : mj_exec X d y pc L (.int x :: r) w = if x ≤ 0 then mj_exec X d y tgt L r w else mj_exec X d y (pc + 3) L r w := by
  have h0 : mj_step X M (.ifCond .le off) 3 pc L (.int x :: r) w = mj_if (mj_cmp .le x 0) pc off L r w := rfl
  rw [mj_if_t ht] at h0
  by_cases hc : x ≤ 0
  · rw [if_pos hc]
    exact mj_xi hM hd (h0.trans (by simp [mj_cmp, hc]))
  · rw [if_neg hc]
    exact mj_xi hM hd (h0.trans (by simp [mj_cmp, hc]))
theorem mj_q_icmp_le (hM : mj_meth y = some M) {x z : Int32} {off : Int} {tgt : Nat} (hd : decode M.2.1 pc = .ok (.if_icmp .le off, 3)) (ht : (pc : Int) + off = (tgt : Int)) : mj_exec X d y pc L (.int z :: .int x :: r) w = if x ≤ z then mj_exec X d y tgt L r w else mj_exec X d y (pc + 3) L r w := by
  have h0 : mj_step X M (.if_icmp .le off) 3 pc L (.int z :: .int x :: r) w = mj_if (mj_cmp .le x z) pc off L r w := rfl
  rw [mj_if_t ht] at h0
  by_cases hc : x ≤ z
  · rw [if_pos hc]
    exact mj_xi hM hd (h0.trans (by simp [mj_cmp, hc]))
  · rw [if_neg hc]
    exact mj_xi hM hd (h0.trans (by simp [mj_cmp, hc]))
theorem mj_q_getf (hM : mj_meth y = some M) {ix ci j k : Nat} {v : Value} (hd : decode M.2.1 pc = .ok (.getfield ix, 3)) (hp : mj_pool M.2.2.2.2.2.1 ix = some (0, ci, j)) (hv : mj_fld w k ci j = some v) : mj_exec X d y pc L (.ref k :: r) w = mj_exec X d y (pc + 3) L (v :: r) w := by
  obtain ⟨hk, fs, hw, hf⟩ := mj_fld_at hv
  exact mj_xi hM hd (show (if 3 = 3 then mj_getf (mj_pool M.2.2.2.2.2.1 ix) pc L (.ref k :: r) w else none) = _ by simp only [hp, mj_getf, if_pos hk, hw, hf, if_true])
theorem mj_q_getS (hM : mj_meth y = some M) {ix q k : Nat} (hd : decode M.2.1 pc = .ok (.getfield ix, 3)) (hp : mj_pool M.2.2.2.2.2.1 ix = some (11, q, 0)) (h1 : 1000100 ≤ k) (h2 : k < 1000123) : mj_exec X d y pc L (.ref k :: r) w = mj_exec X d y (pc + 3) L (.ref (k + 100) :: r) w := mj_xi hM hd (show (if 3 = 3 then mj_getf (mj_pool M.2.2.2.2.2.1 ix) pc L (.ref k :: r) w else none) = _ by simp only [hp, mj_getf, if_pos (And.intro h1 h2), if_true])
theorem mj_q_getC (hM : mj_meth y = some M) {ix q k : Nat} (hd : decode M.2.1 pc = .ok (.getfield ix, 3)) (hp : mj_pool M.2.2.2.2.2.1 ix = some (11, q, 1)) (h1 : 1000100 ≤ k) (h2 : k < 1000123) : mj_exec X d y pc L (.ref k :: r) w = mj_exec X d y (pc + 3) L (.int 0 :: r) w := mj_xi hM hd (show (if 3 = 3 then mj_getf (mj_pool M.2.2.2.2.2.1 ix) pc L (.ref k :: r) w else none) = _ by simp only [hp, mj_getf, if_pos (And.intro h1 h2), if_true])
theorem mj_q_putf (hM : mj_meth y = some M) {ix ci j k : Nat} {v v0 : Value} (hd : decode M.2.1 pc = .ok (.putfield ix, 3)) (hp : mj_pool M.2.2.2.2.2.1 ix = some (0, ci, j)) (hc : ci < 10 ∧ j < mj_N ci) (hfit : mj_fit (mj_ty ci j) v = true) (hfin : mj_fin ci j = false ∨ (M.2.2.2.2.2.2.1 = true ∧ M.2.2.2.2.2.1 = ci)) (hv : mj_fld w k ci j = some v0) : mj_exec X d y pc L (v :: .ref k :: r) w = mj_exec X d y (pc + 3) L r (mj_wf w k j v) := by
  obtain ⟨hk, fs, hw, hf⟩ := mj_fld_at hv
  have hl := (List.getElem?_eq_some_iff.mp hf).1
  have hwf : mj_wf w k j v = (w.1.set k (.inr (ci, fs.set j v)), w.2) := by unfold mj_wf; rw [hw]
  rw [hwf]
  exact mj_xi hM hd (show (if 3 = 3 then mj_putf M (mj_pool M.2.2.2.2.2.1 ix) pc L (v :: .ref k :: r) w else none) = _ by simp only [hp, mj_putf, if_pos hk, hw, if_true]; rw [if_pos ⟨trivial, hc.1, hc.2, hl, hfit, hfin⟩])
theorem mj_q_iald (hM : mj_meth y = some M) {i : Int32} {k n : Nat} {f : Nat → Int32} (hd : decode M.2.1 pc = .ok (.iaload, 1)) (hr : mj_row w k = some (.int, n, f)) (hi : ¬ (i < 0 ∨ n ≤ i.toNatClampNeg)) : mj_exec X d y pc L (.int i :: .ref k :: r) w = mj_exec X d y (pc + 1) L (.int (f i.toNatClampNeg) :: r) w := by
  obtain ⟨hk, hw, -⟩ := mj_wi_row hr (fun _ => 0)
  exact mj_xi hM hd (show (if 1 = 1 then mj_iald pc X L (.int i :: .ref k :: r) w else none) = _ by simp only [mj_iald, mj_arr, if_pos hk, hw, if_neg hi, if_true])
theorem mj_q_bald (hM : mj_meth y = some M) {i : Int32} {k n : Nat} {f : Nat → Int32} (hd : decode M.2.1 pc = .ok (.baload, 1)) (hr : mj_row w k = some (.byte, n, f)) (hi : ¬ (i < 0 ∨ n ≤ i.toNatClampNeg)) : mj_exec X d y pc L (.int i :: .ref k :: r) w = mj_exec X d y (pc + 1) L (.int (f i.toNatClampNeg) :: r) w := by
  obtain ⟨hk, hw, -⟩ := mj_wi_row hr (fun _ => 0)
  exact mj_xi hM hd (show (if 1 = 1 then mj_bald pc X L (.int i :: .ref k :: r) w else none) = _ by simp only [mj_bald, mj_arr, if_pos hk, hw, if_neg hi, if_true])
theorem mj_q_zald (hM : mj_meth y = some M) {i : Int32} {k n : Nat} {f : Nat → Int32} (hd : decode M.2.1 pc = .ok (.baload, 1)) (hr : mj_row w k = some (.boolean, n, f)) (hi : ¬ (i < 0 ∨ n ≤ i.toNatClampNeg)) : mj_exec X d y pc L (.int i :: .ref k :: r) w = mj_exec X d y (pc + 1) L (.int (f i.toNatClampNeg) :: r) w := by
  obtain ⟨hk, hw, -⟩ := mj_wi_row hr (fun _ => 0)
  exact mj_xi hM hd (show (if 1 = 1 then mj_bald pc X L (.int i :: .ref k :: r) w else none) = _ by simp only [mj_bald, mj_arr, if_pos hk, hw, if_neg hi, if_true])
theorem mj_q_iakd (hM : mj_meth y = some M) {i : Int32} {k n : Nat} {f : Nat → Int32} (hd : decode M.2.1 pc = .ok (.iaload, 1)) (hk : ¬ k < 1000000) (hr : mj_ka X k = some (.int, n, f)) (hi : ¬ (i < 0 ∨ n ≤ i.toNatClampNeg)) : mj_exec X d y pc L (.int i :: .ref k :: r) w = mj_exec X d y (pc + 1) L (.int (f i.toNatClampNeg) :: r) w := mj_xi hM hd (show (if 1 = 1 then mj_iald pc X L (.int i :: .ref k :: r) w else none) = _ by simp only [mj_iald, mj_arr, if_neg hk, hr, if_neg hi, if_true])
theorem mj_q_bakd (hM : mj_meth y = some M) {i : Int32} {k n : Nat} {f : Nat → Int32} (hd : decode M.2.1 pc = .ok (.baload, 1)) (hk : ¬ k < 1000000) (hr : mj_ka X k = some (.byte, n, f)) (hi : ¬ (i < 0 ∨ n ≤ i.toNatClampNeg)) : mj_exec X d y pc L (.int i :: .ref k :: r) w = mj_exec X d y (pc + 1) L (.int (f i.toNatClampNeg) :: r) w := mj_xi hM hd (show (if 1 = 1 then mj_bald pc X L (.int i :: .ref k :: r) w else none) = _ by simp only [mj_bald, mj_arr, if_neg hk, hr, if_neg hi, if_true])
theorem mj_q_lald (hM : mj_meth y = some M) {i : Int32} {k n : Nat} {f : Nat → Int64} (hd : decode M.2.1 pc = .ok (.laload, 1)) (hr : mj_lrow w k = some (n, f)) (hi : ¬ (i < 0 ∨ n ≤ i.toNatClampNeg)) : mj_exec X d y pc L (.int i :: .ref k :: r) w = mj_exec X d y (pc + 1) L (.long (f i.toNatClampNeg) :: r) w := by
  obtain ⟨hk, hw, -⟩ := mj_wl_row hr (fun _ => 0)
  exact mj_xi hM hd (show (if 1 = 1 then mj_lald pc L (.int i :: .ref k :: r) w else none) = _ by simp only [mj_lald, if_pos hk, hw, if_neg hi, if_true])
theorem mj_q_iast (hM : mj_meth y = some M) {i x : Int32} {k n : Nat} {f : Nat → Int32} (hd : decode M.2.1 pc = .ok (.iastore, 1)) (hr : mj_row w k = some (.int, n, f)) (hi : ¬ (i < 0 ∨ n ≤ i.toNatClampNeg)) : mj_exec X d y pc L (.int x :: .int i :: .ref k :: r) w = mj_exec X d y (pc + 1) L r (mj_wi w k (upd f i.toNatClampNeg x)) := by
  obtain ⟨hk, hw, hwi⟩ := mj_wi_row hr (upd f i.toNatClampNeg x)
  rw [hwi]
  exact mj_xi hM hd (show (if 1 = 1 then mj_iast pc L (.int x :: .int i :: .ref k :: r) w else none) = _ by simp only [mj_iast, if_pos hk, hw, if_neg hi, if_true])
theorem mj_q_bast (hM : mj_meth y = some M) {i x : Int32} {k n : Nat} {f : Nat → Int32} (hd : decode M.2.1 pc = .ok (.bastore, 1)) (hr : mj_row w k = some (.byte, n, f)) (hi : ¬ (i < 0 ∨ n ≤ i.toNatClampNeg)) : mj_exec X d y pc L (.int x :: .int i :: .ref k :: r) w = mj_exec X d y (pc + 1) L r (mj_wi w k (upd f i.toNatClampNeg (vp_nar .byte x))) := by
  obtain ⟨hk, hw, hwi⟩ := mj_wi_row hr (upd f i.toNatClampNeg (vp_nar .byte x))
  rw [hwi]
  exact mj_xi hM hd (show (if 1 = 1 then mj_bast pc L (.int x :: .int i :: .ref k :: r) w else none) = _ by simp only [mj_bast, if_pos hk, hw, if_neg hi, if_true])
theorem mj_q_zast (hM : mj_meth y = some M) {i x : Int32} {k n : Nat} {f : Nat → Int32} (hd : decode M.2.1 pc = .ok (.bastore, 1)) (hr : mj_row w k = some (.boolean, n, f)) (hi : ¬ (i < 0 ∨ n ≤ i.toNatClampNeg)) : mj_exec X d y pc L (.int x :: .int i :: .ref k :: r) w = mj_exec X d y (pc + 1) L r (mj_wi w k (upd f i.toNatClampNeg (vp_nar .boolean x))) := by
  obtain ⟨hk, hw, hwi⟩ := mj_wi_row hr (upd f i.toNatClampNeg (vp_nar .boolean x))
  rw [hwi]
  exact mj_xi hM hd (show (if 1 = 1 then mj_bast pc L (.int x :: .int i :: .ref k :: r) w else none) = _ by simp only [mj_bast, if_pos hk, hw, if_neg hi, if_true])
theorem mj_q_last (hM : mj_meth y = some M) {i : Int32} {x : Int64} {k n : Nat} {f : Nat → Int64} (hd : decode M.2.1 pc = .ok (.lastore, 1)) (hr : mj_lrow w k = some (n, f)) (hi : ¬ (i < 0 ∨ n ≤ i.toNatClampNeg)) : mj_exec X d y pc L (.long x :: .int i :: .ref k :: r) w = mj_exec X d y (pc + 1) L r (mj_wl w k (vp_updL f i.toNatClampNeg x)) := by
  obtain ⟨hk, hw, hwi⟩ := mj_wl_row hr (vp_updL f i.toNatClampNeg x)
  rw [hwi]
  exact mj_xi hM hd (show (if 1 = 1 then mj_last pc L (.long x :: .int i :: .ref k :: r) w else none) = _ by simp only [mj_last, if_pos hk, hw, if_neg hi, if_true])
theorem mj_q_alen (hM : mj_meth y = some M) {k n : Nat} {ty : FieldType} {f : Nat → Int32} (hd : decode M.2.1 pc = .ok (.arraylength, 1)) (hr : mj_row w k = some (ty, n, f)) : mj_exec X d y pc L (.ref k :: r) w = mj_exec X d y (pc + 1) L (.int (nI n) :: r) w := by
  obtain ⟨hk, hw, -⟩ := mj_wi_row hr (fun _ => 0)
  exact mj_xi hM hd (show (if 1 = 1 then mj_alen pc X L (.ref k :: r) w else none) = _ by simp only [mj_alen, if_pos hk, hw, if_true]; rfl)
theorem mj_q_alenl (hM : mj_meth y = some M) {k n : Nat} {f : Nat → Int64} (hd : decode M.2.1 pc = .ok (.arraylength, 1)) (hr : mj_lrow w k = some (n, f)) : mj_exec X d y pc L (.ref k :: r) w = mj_exec X d y (pc + 1) L (.int (nI n) :: r) w := by
  obtain ⟨hk, hw, -⟩ := mj_wl_row hr (fun _ => 0)
  exact mj_xi hM hd (show (if 1 = 1 then mj_alen pc X L (.ref k :: r) w else none) = _ by simp only [mj_alen, if_pos hk, hw, if_true]; rfl)
theorem mj_q_alenk (hM : mj_meth y = some M) {k n : Nat} {ty : FieldType} {f : Nat → Int32} (hd : decode M.2.1 pc = .ok (.arraylength, 1)) (hk : ¬ k < 1000000) (hr : mj_ka X k = some (ty, n, f)) : mj_exec X d y pc L (.ref k :: r) w = mj_exec X d y (pc + 1) L (.int (nI n) :: r) w := mj_xi hM hd (show (if 1 = 1 then mj_alen pc X L (.ref k :: r) w else none) = _ by simp only [mj_alen, if_neg hk, hr, if_true]; rfl)
theorem mj_q_gets (hM : mj_meth y = some M) {ix b : Nat} (hd : decode M.2.1 pc = .ok (.getstatic ix, 3)) (hp : mj_pool M.2.2.2.2.2.1 ix = some (1, 0, b)) : mj_exec X d y pc L st w = mj_exec X d y (pc + 3) L (.ref (1000000 + b) :: st) w := mj_xi hM hd (show (if 3 = 3 then mj_gets (mj_pool M.2.2.2.2.2.1 ix) pc L st w else none) = _ by simp only [hp, mj_gets, if_true])
theorem mj_q_getsN (hM : mj_meth y = some M) {ix b : Nat} (hd : decode M.2.1 pc = .ok (.getstatic ix, 3)) (hp : mj_pool M.2.2.2.2.2.1 ix = some (12, 0, b)) : mj_exec X d y pc L st w = mj_exec X d y (pc + 3) L (.ref (1000000 + b) :: st) w := mj_xi hM hd (show (if 3 = 3 then mj_gets (mj_pool M.2.2.2.2.2.1 ix) pc L st w else none) = _ by simp only [hp, mj_gets, if_true])
theorem mj_q_getsI (hM : mj_meth y = some M) {ix b : Nat} (hd : decode M.2.1 pc = .ok (.getstatic ix, 3)) (hp : mj_pool M.2.2.2.2.2.1 ix = some (1, 1, b)) : mj_exec X d y pc L st w = mj_exec X d y (pc + 3) L (.int (nI b) :: st) w := mj_xi hM hd (show (if 3 = 3 then mj_gets (mj_pool M.2.2.2.2.2.1 ix) pc L st w else none) = _ by simp only [hp, mj_gets, if_true]; rfl)
theorem mj_q_ldci (hM : mj_meth y = some M) {ix a b : Nat} (hd : decode M.2.1 pc = .ok (.ldc ix, 2)) (hp : mj_pool M.2.2.2.2.2.1 ix = some (5, a, b)) : mj_exec X d y pc L st w = mj_exec X d y (pc + 2) L (.int (nI a) :: st) w := mj_xi hM hd (show (if 2 = 2 then mj_ldc (mj_pool M.2.2.2.2.2.1 ix) (pc + 2) L st w else none) = _ by simp only [hp, mj_ldc, if_true]; rfl)
theorem mj_q_ldcs (hM : mj_meth y = some M) {ix a b : Nat} (hd : decode M.2.1 pc = .ok (.ldc ix, 2)) (hp : mj_pool M.2.2.2.2.2.1 ix = some (7, a, b)) : mj_exec X d y pc L st w = mj_exec X d y (pc + 2) L (.ref (1000100 + a) :: st) w := mj_xi hM hd (show (if 2 = 2 then mj_ldc (mj_pool M.2.2.2.2.2.1 ix) (pc + 2) L st w else none) = _ by simp only [hp, mj_ldc, if_true])
theorem mj_q_ldc_wi (hM : mj_meth y = some M) {ix a b : Nat} (hd : decode M.2.1 pc = .ok (.ldc_w ix, 3)) (hp : mj_pool M.2.2.2.2.2.1 ix = some (5, a, b)) : mj_exec X d y pc L st w = mj_exec X d y (pc + 3) L (.int (nI a) :: st) w := mj_xi hM hd (show (if 3 = 3 then mj_ldc (mj_pool M.2.2.2.2.2.1 ix) (pc + 3) L st w else none) = _ by simp only [hp, mj_ldc, if_true]; rfl)
theorem mj_q_ldc_ws (hM : mj_meth y = some M) {ix a b : Nat} (hd : decode M.2.1 pc = .ok (.ldc_w ix, 3)) (hp : mj_pool M.2.2.2.2.2.1 ix = some (7, a, b)) : mj_exec X d y pc L st w = mj_exec X d y (pc + 3) L (.ref (1000100 + a) :: st) w := mj_xi hM hd (show (if 3 = 3 then mj_ldc (mj_pool M.2.2.2.2.2.1 ix) (pc + 3) L st w else none) = _ by simp only [hp, mj_ldc, if_true])
theorem mj_q_ldc2 (hM : mj_meth y = some M) {ix a b : Nat} (hd : decode M.2.1 pc = .ok (.ldc2_w ix, 3)) (hp : mj_pool M.2.2.2.2.2.1 ix = some (6, a, b)) : mj_exec X d y pc L st w = mj_exec X d y (pc + 3) L (.long (lN a) :: st) w := mj_xi hM hd (show (if 3 = 3 then mj_ldc2 (mj_pool M.2.2.2.2.2.1 ix) (pc + 3) L st w else none) = _ by simp only [hp, mj_ldc2, if_true]; rfl)
theorem mj_q_thr (hM : mj_meth y = some M) {ix en b : Nat} (hd : decode M.2.1 pc = .ok (.new ix, 3)) (hp : mj_pool M.2.2.2.2.2.1 ix = some (9, en, b)) (ht : mj_thr M pc en = true) (hh : M.2.2.2.2.2.2.2 = []) (hc : (st.map fun v => v.category).sum ≤ 8) : mj_exec X d y pc L st w = some (.inr en, (w.1, w.2.1 + 1, w.2.2 + 6)) := mj_exec_end hM hd (show (if 3 = 3 then mj_new M (mj_pool M.2.2.2.2.2.1 ix) pc L st w else none) = _ by simp only [hp, mj_new, if_true]; rw [if_pos ⟨ht, hh, hc⟩])
theorem mj_q_iret (hM : mj_meth y = some M) {x : Int32} (hd : decode M.2.1 pc = .ok (.ireturn, 1)) (hf : mj_rfit M.2.2.2.1 x = true) : mj_exec X d y pc L [.int x] w = some (.inl (some (.int x)), w) := mj_exec_end hM hd (show (if 1 = 1 then mj_iret M [.int x] w else none) = _ by simp only [mj_iret, hf, if_true])
theorem mj_q_vret (hM : mj_meth y = some M) (hd : decode M.2.1 pc = .ok (.return_, 1)) (hf : M.2.2.2.1 = none) : mj_exec X d y pc L [] w = some (.inl none, w) := mj_exec_end hM hd (show (if 1 = 1 then mj_vret M [] w else none) = _ by simp only [mj_vret, hf, if_true])
theorem mj_q_aret (hM : mj_meth y = some M) {k : Nat} {nm : String} (hd : decode M.2.1 pc = .ok (.areturn, 1)) (hf : M.2.2.2.1 = some (.object nm)) (hk : k ≠ 1000300) : mj_exec X d y pc L [.ref k] w = some (.inl (some (.ref k)), w) := mj_exec_end hM hd (show (if 1 = 1 then mj_aret M [.ref k] w else none) = _ by simp only [mj_aret, hf, if_neg hk, if_true])
theorem mj_q_oinit (hM : mj_meth y = some M) {ix k a b : Nat} (hd : decode M.2.1 pc = .ok (.invokespecial ix, 3)) (hp : mj_pool M.2.2.2.2.2.1 ix = some (3, a, b)) (hk : k < 1000000) (hc : (r.map fun v => v.category).sum ≤ 8) : mj_exec X d y pc L (.ref k :: r) w = mj_exec X d y (pc + 3) L r w := mj_xi hM hd (show (if 3 = 3 then mj_invi (mj_pool M.2.2.2.2.2.1 ix) pc L (.ref k :: r) w else none) = _ by simp only [hp, mj_invi, if_pos (And.intro hk hc), if_true])
theorem mj_q_min (hM : mj_meth y = some M) {ix b : Nat} {x z : Int32} (hd : decode M.2.1 pc = .ok (.invokestatic ix, 3)) (hp : mj_pool M.2.2.2.2.2.1 ix = some (15, 0, b)) (hc : (r.map fun v => v.category).sum ≤ 8) : mj_exec X d y pc L (.int z :: .int x :: r) w = mj_exec X d y (pc + 3) L (.int (if z < x then z else x) :: r) w := mj_xi hM hd (show (if 3 = 3 then mj_invs (mj_pool M.2.2.2.2.2.1 ix) pc L (.int z :: .int x :: r) w else none) = _ by simp only [hp, mj_invs, mj_math, if_pos hc, if_true])
theorem mj_q_max (hM : mj_meth y = some M) {ix b : Nat} {x z : Int32} (hd : decode M.2.1 pc = .ok (.invokestatic ix, 3)) (hp : mj_pool M.2.2.2.2.2.1 ix = some (15, 1, b)) (hc : (r.map fun v => v.category).sum ≤ 8) : mj_exec X d y pc L (.int z :: .int x :: r) w = mj_exec X d y (pc + 3) L (.int (if x < z then z else x) :: r) w := mj_xi hM hd (show (if 3 = 3 then mj_invs (mj_pool M.2.2.2.2.2.1 ix) pc L (.int z :: .int x :: r) w else none) = _ by simp only [hp, mj_invs, mj_math, if_pos hc, if_true])
theorem mj_q_abs (hM : mj_meth y = some M) {ix b : Nat} {x : Int32} (hd : decode M.2.1 pc = .ok (.invokestatic ix, 3)) (hp : mj_pool M.2.2.2.2.2.1 ix = some (15, 2, b)) (hc : (r.map fun v => v.category).sum ≤ 8) : mj_exec X d y pc L (.int x :: r) w = mj_exec X d y (pc + 3) L (.int (if 0 ≤ x then x else 0 - x) :: r) w := mj_xi hM hd (show (if 3 = 3 then mj_invs (mj_pool M.2.2.2.2.2.1 ix) pc L (.int x :: r) w else none) = _ by simp only [hp, mj_invs, mj_math, if_pos hc, if_true])
end MJQ
