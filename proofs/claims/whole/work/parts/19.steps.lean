/-! one step, and all of them -/
section MJST
variable {p : Program} {l : Launch} {e : Env} {R : Room} {s : State} {m : MethodId} {args : Array Value} {below : List Frame} {meth : Method} {c : Code} {ct : Nat → Option Value} {X : mj_X} {D : va_G} {A : Nat → Prop} {Q : State → Prop} {ads0 : List Nat} {c0 s0 d len pc mc ms : Nat} {M : mj_M} {L : mj_L} {st : List Value} {w wf : mj_W} {out : mj_O} {r : mj_T4} {i : Instr}
theorem mj_inv_no {b : Bool} {z : Nat} {q : mj_T4 ⊕ (mj_O × mj_W)} (h : mj_inv b z st w = some (match q with | .inl a => .inl a | .inr a => .inr (.inl a))) : False := by
  unfold mj_inv at h
  split at h
  · cases h
  · obtain ⟨-, h3⟩ := mj_ifn h
    split at h3
    · split at h3
      · obtain ⟨-, h4⟩ := mj_ifn h3
        cases q <;> cases h4
      · cases h3
    · cases q <;> cases h3
theorem mj_step_ok (C : mj_Cx p l R s m args meth c ct X D A M d) (hd : decode M.2.1 pc = .ok (i, len)) (hs : mj_step X M i len pc L st w = some (.inl r)) (hcap : r.2.2.2.2.1 ≤ c0 + R.cells ∧ r.2.2.2.2.2 ≤ s0 + R.slots) (k : mj_G p l e R s m args below meth c ct D A Q ads0 c0 s0 r.1 r.2.1 r.2.2.1 r.2.2.2) : mj_G p l e R s m args below meth c ct D A Q ads0 c0 s0 pc L st w := by
  cases i with
  | iconst n => exact mj_o_iconst C hd hs k
  | bipush n => exact mj_o_bipush C hd hs k
  | sipush n => exact mj_o_sipush C hd hs k
  | lconst n => exact mj_o_lconst C hd hs k
  | iload i => exact mj_o_iload C hd hs k
  | iload_n i => exact mj_o_iload_n C hd hs k
  | lload i => exact mj_o_lload C hd hs k
  | lload_n i => exact mj_o_lload_n C hd hs k
  | aload i => exact mj_o_aload C hd hs k
  | aload_n i => exact mj_o_aload_n C hd hs k
  | istore i => exact mj_o_istore C hd hs k
  | istore_n i => exact mj_o_istore_n C hd hs k
  | astore i => exact mj_o_astore C hd hs k
  | astore_n i => exact mj_o_astore_n C hd hs k
  | lstore_n i => exact mj_o_lstore_n C hd hs k
  | iinc i n => exact mj_o_iinc C hd hs k
  | iadd => exact mj_o_iadd C hd hs k
  | isub => exact mj_o_isub C hd hs k
  | imul => exact mj_o_imul C hd hs k
  | iand => exact mj_o_iand C hd hs k
  | ior => exact mj_o_ior C hd hs k
  | ixor => exact mj_o_ixor C hd hs k
  | ishl => exact mj_o_ishl C hd hs k
  | ishr => exact mj_o_ishr C hd hs k
  | iushr => exact mj_o_iushr C hd hs k
  | idiv => exact mj_o_idiv C hd hs k
  | irem => exact mj_o_irem C hd hs k
  | ineg => exact mj_o_ineg C hd hs k
  | i2b => exact mj_o_i2b C hd hs k
  | i2c => exact mj_o_i2c C hd hs k
  | i2l => exact mj_o_i2l C hd hs k
  | l2i => exact mj_o_l2i C hd hs k
  | ladd => exact mj_o_ladd C hd hs k
  | lsub => exact mj_o_lsub C hd hs k
  | land => exact mj_o_land C hd hs k
  | lor => exact mj_o_lor C hd hs k
  | lshl => exact mj_o_lshl C hd hs k
  | lushr => exact mj_o_lushr C hd hs k
  | lcmp => exact mj_o_lcmp C hd hs k
  | dup => exact mj_o_dup C hd hs k
  | pop => exact mj_o_pop C hd hs k
  | dup2 => exact mj_o_dup2 C hd hs k
  | goto o => exact mj_o_goto C hd hs k
  | ifCond cd o => exact mj_o_ifCond C hd hs k
  | if_icmp cd o => exact mj_o_if_icmp C hd hs k
  | tableswitch a b c1 d1 => exact mj_o_tableswitch C hd hs k
  | getfield ix => exact mj_o_getfield C hd hs k
  | putfield ix => exact mj_o_putfield C hd hs k
  | iaload => exact mj_o_iaload C hd hs k
  | baload => exact mj_o_baload C hd hs k
  | laload => exact mj_o_laload C hd hs k
  | aaload => exact mj_o_aaload C hd hs k
  | iastore => exact mj_o_iastore C hd hs k
  | bastore => exact mj_o_bastore C hd hs k
  | lastore => exact mj_o_lastore C hd hs k
  | arraylength => exact mj_o_arraylength C hd hs k
  | aastore => exact mj_o_aastore C hd hs k
  | getstatic ix => exact mj_o_getstatic C hd hs k
  | ldc ix => exact mj_o_ldc C hd hs k
  | ldc_w ix => exact mj_o_ldc_w C hd hs k
  | ldc2_w ix => exact mj_o_ldc2_w C hd hs k
  | invokespecial ix => exact mj_o_invokespecial C hd hs k
  | newarray t => exact mj_o_newarray C hd hs hcap k
  | anewarray ix => exact mj_o_anewarray C hd hs hcap k
  | new ix => exact mj_o_new C hd hs hcap k
  | invokestatic ix => exact mj_o_invokestatic C hd hs hcap k
  | invokevirtual ix =>
    obtain ⟨-, hs1⟩ := mj_ifn hs
    unfold mj_invv at hs1
    split at hs1
    · split at hs1
      · obtain ⟨-, hs2⟩ := mj_ifn hs1
        exact absurd hs2 (fun z => mj_inv_no (q := .inl r) z)
      · cases hs1
    · cases hs1
  | ireturn =>
    obtain ⟨-, hs1⟩ := mj_ifn hs
    unfold mj_iret at hs1
    split at hs1
    · obtain ⟨-, hs2⟩ := mj_ifn hs1
      cases hs2
    · cases hs1
  | areturn =>
    obtain ⟨-, hs1⟩ := mj_ifn hs
    unfold mj_aret at hs1
    split at hs1
    · obtain ⟨-, hs2⟩ := mj_ifm hs1
      cases hs2
    · cases hs1
  | return_ =>
    obtain ⟨-, hs1⟩ := mj_ifn hs
    unfold mj_vret at hs1
    split at hs1 <;> cases hs1
  | _ => cases hs
end MJST
