/-! THE SMALL MACHINE. A world is a list of cells; a reference is a cell's place in it, or (from 1000000 on) a constant: 1000000 LESSER, 1000001 GREATER, 1000002 the script, 1000100 + i the text i, 1000200 + i its bytes, 1000300 a formatter of the JDK's. Beside the cells: how many were made, of how many slots. -/
abbrev mj_C : Type := (FieldType × vp_A) ⊕ (Nat × List Value)
abbrev mj_W : Type := List mj_C × Nat × Nat
abbrev mj_L : Type := List (Option Value)
abbrev mj_O : Type := Option Value ⊕ Nat
abbrev mj_X : Type := Nat × (Nat → Int32)
/-- what a step gives: the next place; the end (an answer, or an exception 0, 1); a call: which, its arguments, the stack below -/
abbrev mj_R : Type := (Nat × mj_L × List Value × mj_W) ⊕ ((mj_O × mj_W) ⊕ (Nat × List Value × List Value))
def mj_ka (X : mj_X) (k : Nat) : Option (FieldType × Nat × (Nat → Int32)) :=
  if k = 1000000 then some (.int, 28, fun j => mj_les.getD j 0)
  else if k = 1000001 then some (.int, 28, fun j => mj_gre.getD j 0)
  else if k = 1000002 then some (.int, X.1, X.2)
  else if k < 1000200 then none
  else match mj_str[k - 1000200]? with
    | some bs => some (.byte, bs.length, fun j => bs.getD j 0)
    | none => none
/-- a row of ints, bytes or booleans -/
def mj_arr (X : mj_X) (w : mj_W) (k : Nat) : Option (FieldType × Nat × (Nat → Int32)) :=
  if k < 1000000 then match w.1[k]? with
    | some (.inl (ty, n, .inl f)) => some (ty, n, f)
    | _ => none
  else mj_ka X k
abbrev mj_nx (pc : Nat) (L : mj_L) (st : List Value) (w : mj_W) : Option mj_R := some (.inl (pc, L, st, w))
def mj_ldi (pc : Nat) (L : mj_L) (st : List Value) (w : mj_W) (i : Nat) : Option mj_R := match L[i]? with
  | some (some (.int x)) => mj_nx pc L (.int x :: st) w
  | _ => none
def mj_ldl (pc : Nat) (L : mj_L) (st : List Value) (w : mj_W) (i : Nat) : Option mj_R := match L[i]? with
  | some (some (.long x)) => mj_nx pc L (.long x :: st) w
  | _ => none
def mj_lda (pc : Nat) (L : mj_L) (st : List Value) (w : mj_W) (i : Nat) : Option mj_R := match L[i]? with
  | some (some (.ref x)) => if x = 1000300 then none else mj_nx pc L (.ref x :: st) w
  | _ => none
/-- no number of two slots ends at i -/
def mj_ok1 (L : mj_L) (i : Nat) : Bool := match i with
  | 0 => true
  | j + 1 => match L[j]? with
    | some (some (.long _)) => false
    | some (some (.double _)) => false
    | _ => true
def mj_sto (pc : Nat) (L : mj_L) (st : List Value) (w : mj_W) (i : Nat) (v : Value) : Option mj_R := if i < L.length then if mj_ok1 L i then mj_nx pc (L.set i (some v)) st w else none else none
def mj_sti (pc : Nat) (L : mj_L) (st : List Value) (w : mj_W) (i : Nat) : Option mj_R := match st with
  | .int x :: r => mj_sto pc L r w i (.int x)
  | _ => none
def mj_sta (pc : Nat) (L : mj_L) (st : List Value) (w : mj_W) (i : Nat) : Option mj_R := match st with
  | .ref x :: r => if x = 1000300 then none else mj_sto pc L r w i (.ref x)
  | _ => none
def mj_stl (pc : Nat) (L : mj_L) (st : List Value) (w : mj_W) (i : Nat) : Option mj_R := match st with
  | .long x :: r => if i + 1 < L.length ∧ mj_ok1 L i = true ∧ L[i + 1]? = some none then mj_nx pc (L.set i (some (.long x))) r w else none
  | _ => none
def mj_bin (f : Int32 → Int32 → Int32) (pc : Nat) (L : mj_L) (st : List Value) (w : mj_W) : Option mj_R := match st with
  | .int y :: .int x :: r => mj_nx (pc + 1) L (.int (f x y) :: r) w
  | _ => none
def mj_binl (f : Int64 → Int64 → Int64) (pc : Nat) (L : mj_L) (st : List Value) (w : mj_W) : Option mj_R := match st with
  | .long y :: .long x :: r => mj_nx (pc + 1) L (.long (f x y) :: r) w
  | _ => none
def mj_un (f : Int32 → Int32) (pc : Nat) (L : mj_L) (st : List Value) (w : mj_W) : Option mj_R := match st with
  | .int x :: r => mj_nx (pc + 1) L (.int (f x) :: r) w
  | _ => none
def mj_cmp (c : ClassFile.Cond) (x y : Int32) : Bool := match c with
  | .eq => decide (x = y)
  | .ne => decide (¬ x = y)
  | .lt => decide (x < y)
  | .ge => decide (y ≤ x)
  | .gt => decide (y < x)
  | .le => decide (x ≤ y)
def mj_jmp (pc : Nat) (off : Int) (L : mj_L) (st : List Value) (w : mj_W) : Option mj_R := if 0 ≤ (pc : Int) + off then mj_nx ((pc : Int) + off).toNat L st w else none
def mj_if (b : Bool) (pc : Nat) (off : Int) (L : mj_L) (st : List Value) (w : mj_W) : Option mj_R := if 0 ≤ (pc : Int) + off then if b then mj_nx ((pc : Int) + off).toNat L st w else mj_nx (pc + 3) L st w else none
def mj_tsw (dflt lo hi : Int) (offs : Array Int) (x : Int32) (pc : Nat) (L : mj_L) (st : List Value) (w : mj_W) : Option mj_R :=
  if x.toInt < lo then mj_jmp pc dflt L st w
  else if hi < x.toInt then mj_jmp pc dflt L st w
  else match offs[(x.toInt - lo).toNat]? with
    | some off => mj_jmp pc off L st w
    | none => none
def mj_getf (lk : Option (Nat × Nat × Nat)) (pc : Nat) (L : mj_L) (st : List Value) (w : mj_W) : Option mj_R := match lk, st with
  | some (0, ci, j), .ref k :: r => if k < 1000000 then match w.1[k]? with
    | some (.inr (c, fs)) => if c = ci then match fs[j]? with
      | some v => mj_nx (pc + 3) L (v :: r) w
      | none => none
      else none
    | _ => none
    else none
  | some (11, _, 0), .ref k :: r => if 1000100 ≤ k ∧ k < 1000123 then mj_nx (pc + 3) L (.ref (k + 100) :: r) w else none
  | some (11, _, 1), .ref k :: r => if 1000100 ≤ k ∧ k < 1000123 then mj_nx (pc + 3) L (.int 0 :: r) w else none
  | _, _ => none
def mj_fit (ty : FieldType) (v : Value) : Bool := match ty, v with
  | .int, .int _ => true
  | .boolean, .int x => x == 0 || x == 1
  | .object _, .ref x => x != 1000300
  | .array _, .ref x => x != 1000300
  | _, _ => false
def mj_putf (M : mj_M) (lk : Option (Nat × Nat × Nat)) (pc : Nat) (L : mj_L) (st : List Value) (w : mj_W) : Option mj_R := match lk, st with
  | some (0, ci, j), v :: .ref k :: r => if k < 1000000 then match w.1[k]? with
    | some (.inr (c, fs)) => if c = ci ∧ ci < 10 ∧ j < mj_N ci ∧ j < fs.length ∧ mj_fit (mj_ty ci j) v = true ∧ (mj_fin ci j = false ∨ (M.2.2.2.2.2.2.1 = true ∧ M.2.2.2.2.2.1 = ci))
      then mj_nx (pc + 3) L r (w.1.set k (.inr (ci, fs.set j v)), w.2) else none
    | _ => none
    else none
  | _, _ => none
/-- a new cell, of n slots -/
def mj_push (pc : Nat) (L : mj_L) (st : List Value) (w : mj_W) (c : mj_C) (n : Nat) : Option mj_R := if w.1.length < 1000000 then mj_nx pc L (.ref w.1.length :: st) (w.1 ++ [c], w.2.1 + 1, w.2.2 + n) else none
def mj_newa (t : ArrayType) (n : Nat) : Option mj_C := match t with
  | .int => some (.inl (.int, n, .inl fun _ => 0))
  | .byte => some (.inl (.byte, n, .inl fun _ => 0))
  | .boolean => some (.inl (.boolean, n, .inl fun _ => 0))
  | .long => some (.inl (.long, n, .inr (.inl fun _ => 0)))
  | _ => none
def mj_nar (t : ArrayType) (pc : Nat) (L : mj_L) (st : List Value) (w : mj_W) : Option mj_R := match st with
  | .int n :: r => if n < 0 ∨ 1000000 < n.toNatClampNeg then none else match mj_newa t n.toNatClampNeg with
    | some c => mj_push (pc + 2) L r w c n.toNatClampNeg
    | none => none
  | _ => none
def mj_anew (lk : Option (Nat × Nat × Nat)) (pc : Nat) (L : mj_L) (st : List Value) (w : mj_W) : Option mj_R := match lk, st with
  | some (10, _, _), .int n :: r => if n < 0 ∨ 1000000 < n.toNatClampNeg then none else mj_push (pc + 3) L r w (.inl (.object "java/lang/String", n.toNatClampNeg, .inr (.inr (.inr (.inr fun _ => none))))) n.toNatClampNeg
  | _, _ => none
def mj_aast (pc : Nat) (L : mj_L) (st : List Value) (w : mj_W) : Option mj_R := match st with
  | .ref v :: .int i :: .ref k :: r => if 1000100 ≤ v ∧ v < 1000123 ∧ k < 1000000 then match w.1[k]? with
    | some (.inl (.object "java/lang/String", n, .inr (.inr (.inr (.inr f))))) => if i < 0 ∨ n ≤ i.toNatClampNeg then none else mj_nx (pc + 1) L r (w.1.set k (.inl (.object "java/lang/String", n, .inr (.inr (.inr (.inr (va_up f i.toNatClampNeg (some v))))))), w.2)
    | _ => none
    else none
  | _ => none
def mj_aald (pc : Nat) (L : mj_L) (st : List Value) (w : mj_W) : Option mj_R := match st with
  | .int i :: .ref k :: r => if k < 1000000 then match w.1[k]? with
    | some (.inl (.object "java/lang/String", n, .inr (.inr (.inr (.inr f))))) => if i < 0 ∨ n ≤ i.toNatClampNeg then none else match f i.toNatClampNeg with
      | some v => mj_nx (pc + 1) L (.ref v :: r) w
      | none => none
    | _ => none
    else none
  | _ => none
def mj_iald (pc : Nat) (X : mj_X) (L : mj_L) (st : List Value) (w : mj_W) : Option mj_R := match st with
  | .int i :: .ref k :: r => match mj_arr X w k with
    | some (.int, n, f) => if i < 0 ∨ n ≤ i.toNatClampNeg then none else mj_nx (pc + 1) L (.int (f i.toNatClampNeg) :: r) w
    | _ => none
  | _ => none
def mj_bald (pc : Nat) (X : mj_X) (L : mj_L) (st : List Value) (w : mj_W) : Option mj_R := match st with
  | .int i :: .ref k :: r => match mj_arr X w k with
    | some (.byte, n, f) => if i < 0 ∨ n ≤ i.toNatClampNeg then none else mj_nx (pc + 1) L (.int (f i.toNatClampNeg) :: r) w
    | some (.boolean, n, f) => if i < 0 ∨ n ≤ i.toNatClampNeg then none else mj_nx (pc + 1) L (.int (f i.toNatClampNeg) :: r) w
    | _ => none
  | _ => none
def mj_lald (pc : Nat) (L : mj_L) (st : List Value) (w : mj_W) : Option mj_R := match st with
  | .int i :: .ref k :: r => if k < 1000000 then match w.1[k]? with
    | some (.inl (.long, n, .inr (.inl f))) => if i < 0 ∨ n ≤ i.toNatClampNeg then none else mj_nx (pc + 1) L (.long (f i.toNatClampNeg) :: r) w
    | _ => none
    else none
  | _ => none
def mj_iast (pc : Nat) (L : mj_L) (st : List Value) (w : mj_W) : Option mj_R := match st with
  | .int x :: .int i :: .ref k :: r => if k < 1000000 then match w.1[k]? with
    | some (.inl (.int, n, .inl f)) => if i < 0 ∨ n ≤ i.toNatClampNeg then none else mj_nx (pc + 1) L r (w.1.set k (.inl (.int, n, .inl (upd f i.toNatClampNeg x))), w.2)
    | _ => none
    else none
  | _ => none
def mj_bast (pc : Nat) (L : mj_L) (st : List Value) (w : mj_W) : Option mj_R := match st with
  | .int x :: .int i :: .ref k :: r => if k < 1000000 then match w.1[k]? with
    | some (.inl (.byte, n, .inl f)) => if i < 0 ∨ n ≤ i.toNatClampNeg then none else mj_nx (pc + 1) L r (w.1.set k (.inl (.byte, n, .inl (upd f i.toNatClampNeg (vp_nar .byte x)))), w.2)
    | some (.inl (.boolean, n, .inl f)) => if i < 0 ∨ n ≤ i.toNatClampNeg then none else mj_nx (pc + 1) L r (w.1.set k (.inl (.boolean, n, .inl (upd f i.toNatClampNeg (vp_nar .boolean x)))), w.2)
    | _ => none
    else none
  | _ => none
def mj_last (pc : Nat) (L : mj_L) (st : List Value) (w : mj_W) : Option mj_R := match st with
  | .long x :: .int i :: .ref k :: r => if k < 1000000 then match w.1[k]? with
    | some (.inl (.long, n, .inr (.inl f))) => if i < 0 ∨ n ≤ i.toNatClampNeg then none else mj_nx (pc + 1) L r (w.1.set k (.inl (.long, n, .inr (.inl (vp_updL f i.toNatClampNeg x)))), w.2)
    | _ => none
    else none
  | _ => none
def mj_alen (pc : Nat) (X : mj_X) (L : mj_L) (st : List Value) (w : mj_W) : Option mj_R := match st with
  | .ref k :: r => if k < 1000000 then match w.1[k]? with
    | some (.inl (_, n, _)) => mj_nx (pc + 1) L (.int (Int32.ofNat n) :: r) w
    | _ => none
    else match mj_ka X k with
    | some (_, n, _) => mj_nx (pc + 1) L (.int (Int32.ofNat n) :: r) w
    | none => none
  | _ => none
def mj_gets (lk : Option (Nat × Nat × Nat)) (pc : Nat) (L : mj_L) (st : List Value) (w : mj_W) : Option mj_R := match lk with
  | some (1, 0, b) => mj_nx (pc + 3) L (.ref (1000000 + b) :: st) w
  | some (12, 0, b) => mj_nx (pc + 3) L (.ref (1000000 + b) :: st) w
  | some (1, 1, b) => mj_nx (pc + 3) L (.int (Int32.ofNat b) :: st) w
  | _ => none
def mj_ldc (lk : Option (Nat × Nat × Nat)) (pc : Nat) (L : mj_L) (st : List Value) (w : mj_W) : Option mj_R := match lk with
  | some (5, a, _) => mj_nx pc L (.int (Int32.ofNat a) :: st) w
  | some (7, a, _) => mj_nx pc L (.ref (1000100 + a) :: st) w
  | _ => none
def mj_ldc2 (lk : Option (Nat × Nat × Nat)) (pc : Nat) (L : mj_L) (st : List Value) (w : mj_W) : Option mj_R := match lk with
  | some (6, a, _) => mj_nx pc L (.long (Int64.ofNat a) :: st) w
  | _ => none
/-- 'throw new E(a text)', from its 'new' on -/
def mj_thr (M : mj_M) (pc e : Nat) : Bool := match decode M.2.1 (pc + 3), decode M.2.1 (pc + 4) with
  | .ok (.dup, 1), .ok (.ldc is, 2) => match mj_pool M.2.2.2.2.2.1 is, decode M.2.1 (pc + 6), decode M.2.1 (pc + 9) with
    | some (7, _, _), .ok (.invokespecial ic, 3), .ok (.athrow, 1) => mj_pool M.2.2.2.2.2.1 ic == some (14, e, 0)
    | _, _, _ => false
  | .ok (.dup, 1), .ok (.ldc_w is, 3) => match mj_pool M.2.2.2.2.2.1 is, decode M.2.1 (pc + 7), decode M.2.1 (pc + 10) with
    | some (7, _, _), .ok (.invokespecial ic, 3), .ok (.athrow, 1) => mj_pool M.2.2.2.2.2.1 ic == some (14, e, 0)
    | _, _, _ => false
  | _, _ => false
def mj_new (M : mj_M) (lk : Option (Nat × Nat × Nat)) (pc : Nat) (L : mj_L) (st : List Value) (w : mj_W) : Option mj_R := match lk with
  | some (8, ci, _) => if ci < 10 then mj_push (pc + 3) L st w (.inr (ci, mj_def ci)) (mj_N ci) else none
  | some (9, e, _) => if mj_thr M pc e = true ∧ M.2.2.2.2.2.2.2 = [] ∧ (st.map fun v => v.category).sum ≤ 8 then some (.inr (.inl (.inr e, (w.1, w.2.1 + 1, w.2.2 + 6)))) else none
  | _ => none
/-- the class of a receiver, by its number -/
def mj_rcv (w : mj_W) (k : Nat) : Option Nat := if k < 1000000 then match w.1[k]? with
    | some (.inr (c, _)) => some c
    | _ => none
  else if 1000100 ≤ k ∧ k < 1000123 then some 12 else none
/-- a call of method z; vr: with a receiver -/
def mj_inv (vr : Bool) (z : Nat) (st : List Value) (w : mj_W) : Option mj_R := match mj_meth z with
  | none => none
  | some M => if M.2.2.2.2.1 ≤ st.length ∧ ((st.drop (M.2.2.2.2.1 + (if vr then 1 else 0))).map fun v => v.category).sum ≤ 8 then
      if vr then match st[M.2.2.2.2.1]? with
        | some (.ref k) => if mj_rcv w k = some M.2.2.2.2.2.1 then some (.inr (.inr (z, .ref k :: (st.take M.2.2.2.2.1).reverse, st.drop (M.2.2.2.2.1 + 1)))) else none
        | _ => none
      else some (.inr (.inr (z, (st.take M.2.2.2.2.1).reverse, st.drop M.2.2.2.2.1)))
    else none
def mj_invv (lk : Option (Nat × Nat × Nat)) (st : List Value) (w : mj_W) : Option mj_R := match lk with
  | some (2, z, 1) => match mj_meth z with
    | some M => if M.2.2.2.2.2.2.2 = [] then mj_inv true z st w else none
    | none => none
  | _ => none
def mj_invi (lk : Option (Nat × Nat × Nat)) (pc : Nat) (L : mj_L) (st : List Value) (w : mj_W) : Option mj_R := match lk, st with
  | some (3, _, _), .ref k :: r => if k < 1000000 ∧ (r.map fun v => v.category).sum ≤ 8 then mj_nx (pc + 3) L r w else none
  | some (2, z, 2), _ => match mj_meth z with
    | some M => if M.2.2.2.2.2.2.2 = [] then mj_inv true z st w else none
    | none => none
  | some (13, z, 2), _ => match mj_meth z with
    | some M => if M.2.2.2.2.2.2.2 = [] then mj_inv true z st w else none
    | none => none
  | _, _ => none
def mj_copy (pc : Nat) (L : mj_L) (st : List Value) (w : mj_W) : Option mj_R := match st with
  | .int n :: .int dp :: .ref d :: .int sp :: .ref s :: r => if s < 1000000 ∧ d < 1000000 ∧ (r.map fun v => v.category).sum ≤ 8 ∧ ¬ sp < 0 ∧ ¬ dp < 0 ∧ ¬ n < 0 then match w.1[s]?, w.1[d]? with
    | some (.inl (.int, n0, .inl f)), some (.inl (.int, n1, .inl g)) => if sp.toNatClampNeg + n.toNatClampNeg ≤ n0 ∧ dp.toNatClampNeg + n.toNatClampNeg ≤ n1 then
        mj_nx (pc + 3) L r (w.1.set d (.inl (.int, n1, .inl (va_cpy f g sp.toNatClampNeg dp.toNatClampNeg n.toNatClampNeg))), w.2) else none
    | some (.inl (.byte, n0, .inl f)), some (.inl (.byte, n1, .inl g)) => if sp.toNatClampNeg + n.toNatClampNeg ≤ n0 ∧ dp.toNatClampNeg + n.toNatClampNeg ≤ n1 ∧ (List.range n.toNatClampNeg).all (fun i => fits .byte (.int (f (sp.toNatClampNeg + i)))) = true then
        mj_nx (pc + 3) L r (w.1.set d (.inl (.byte, n1, .inl (va_cpy f g sp.toNatClampNeg dp.toNatClampNeg n.toNatClampNeg))), w.2) else none
    | _, _ => none
    else none
  | _ => none
def mj_math (a pc : Nat) (L : mj_L) (st : List Value) (w : mj_W) : Option mj_R := match a, st with
  | 0, .int y :: .int x :: r => if (r.map fun v => v.category).sum ≤ 8 then mj_nx (pc + 3) L (.int (if y < x then y else x) :: r) w else none
  | 1, .int y :: .int x :: r => if (r.map fun v => v.category).sum ≤ 8 then mj_nx (pc + 3) L (.int (if x < y then y else x) :: r) w else none
  | 2, .int x :: r => if (r.map fun v => v.category).sum ≤ 8 then mj_nx (pc + 3) L (.int (if 0 ≤ x then x else 0 - x) :: r) w else none
  | _, _ => none
def mj_invs (lk : Option (Nat × Nat × Nat)) (pc : Nat) (L : mj_L) (st : List Value) (w : mj_W) : Option mj_R := match lk with
  | some (4, _, _) => mj_copy pc L st w
  | some (15, a, _) => mj_math a pc L st w
  | some (2, z, 0) => mj_inv false z st w
  | some (13, z, 0) => match mj_meth z with
    | some M => if M.2.2.2.2.2.2.2 = [] then mj_inv false z st w else none
    | none => none
  | _ => none
/-- an int that a method of this return type may answer -/
def mj_rfit (ret : Option FieldType) (x : Int32) : Bool := match ret with
  | some .int => true
  | some .boolean => x == 0 || x == 1
  | some .char => narrow .char (.int x) == .int x
  | some .byte => narrow .byte (.int x) == .int x
  | _ => false
def mj_iret (M : mj_M) (st : List Value) (w : mj_W) : Option mj_R := match st with
  | [.int x] => if mj_rfit M.2.2.2.1 x then some (.inr (.inl (.inl (some (.int x)), w))) else none
  | _ => none
def mj_aret (M : mj_M) (st : List Value) (w : mj_W) : Option mj_R := match M.2.2.2.1, st with
  | some (.object _), [.ref k] => if k = 1000300 then none else some (.inr (.inl (.inl (some (.ref k)), w)))
  | _, _ => none
def mj_vret (M : mj_M) (st : List Value) (w : mj_W) : Option mj_R := match M.2.2.2.1, st with
  | none, [] => some (.inr (.inl (.inl none, w)))
  | _, _ => none
def mj_step (X : mj_X) (M : mj_M) (i : Instr) (len pc : Nat) (L : mj_L) (st : List Value) (w : mj_W) : Option mj_R := match i with
  | .iconst n => if len = 1 then mj_nx (pc + 1) L (.int (Int32.ofInt n) :: st) w else none
  | .bipush n => if len = 2 then mj_nx (pc + 2) L (.int (Int8.ofInt n).toInt32 :: st) w else none
  | .sipush n => if len = 3 then mj_nx (pc + 3) L (.int (Int16.ofInt n).toInt32 :: st) w else none
  | .lconst n => if len = 1 then mj_nx (pc + 1) L (.long (Int64.ofNat (n : Nat)) :: st) w else none
  | .iload k => if len = 2 then mj_ldi (pc + 2) L st w k else none
  | .iload_n k => if len = 1 then mj_ldi (pc + 1) L st w k else none
  | .lload k => if len = 2 then mj_ldl (pc + 2) L st w k else none
  | .lload_n k => if len = 1 then mj_ldl (pc + 1) L st w k else none
  | .aload k => if len = 2 then mj_lda (pc + 2) L st w k else none
  | .aload_n k => if len = 1 then mj_lda (pc + 1) L st w k else none
  | .istore k => if len = 2 then mj_sti (pc + 2) L st w k else none
  | .istore_n k => if len = 1 then mj_sti (pc + 1) L st w k else none
  | .astore k => if len = 2 then mj_sta (pc + 2) L st w k else none
  | .astore_n k => if len = 1 then mj_sta (pc + 1) L st w k else none
  | .lstore_n k => if len = 1 then mj_stl (pc + 1) L st w k else none
  | .iinc k n => if len = 3 then match L[k]? with
    | some (some (.int x)) => mj_sto (pc + 3) L st w k (.int (x + Int32.ofInt n))
    | _ => none
    else none
  | .iadd => if len = 1 then mj_bin (fun x y => x + y) pc L st w else none
  | .isub => if len = 1 then mj_bin (fun x y => x - y) pc L st w else none
  | .imul => if len = 1 then mj_bin (fun x y => x * y) pc L st w else none
  | .iand => if len = 1 then mj_bin (fun x y => x &&& y) pc L st w else none
  | .ior => if len = 1 then mj_bin (fun x y => x ||| y) pc L st w else none
  | .ixor => if len = 1 then mj_bin (fun x y => x ^^^ y) pc L st w else none
  | .ishl => if len = 1 then mj_bin (fun x y => x <<< (y &&& 31)) pc L st w else none
  | .ishr => if len = 1 then mj_bin (fun x y => x >>> (y &&& 31)) pc L st w else none
  | .iushr => if len = 1 then mj_bin (fun x y => (x.toUInt32 >>> (y.toUInt32 &&& Int32.toUInt32 31)).toInt32) pc L st w else none
  | .idiv => if len = 1 then match st with
    | .int y :: _ => if y = 0 then none else mj_bin (fun x y => x / y) pc L st w
    | _ => none
    else none
  | .irem => if len = 1 then match st with
    | .int y :: _ => if y = 0 then none else mj_bin (fun x y => x - x / y * y) pc L st w
    | _ => none
    else none
  | .ineg => if len = 1 then mj_un (fun x => -x) pc L st w else none
  | .i2b => if len = 1 then mj_un (fun x => x.toInt8.toInt32) pc L st w else none
  | .i2c => if len = 1 then mj_un (fun x => (x.toUInt32 % 65536).toInt32) pc L st w else none
  | .i2l => if len = 1 then match st with
    | .int x :: r => mj_nx (pc + 1) L (.long x.toInt64 :: r) w
    | _ => none
    else none
  | .l2i => if len = 1 then match st with
    | .long x :: r => mj_nx (pc + 1) L (.int x.toInt32 :: r) w
    | _ => none
    else none
  | .ladd => if len = 1 then mj_binl (fun x y => x + y) pc L st w else none
  | .lsub => if len = 1 then mj_binl (fun x y => x - y) pc L st w else none
  | .land => if len = 1 then mj_binl (fun x y => x &&& y) pc L st w else none
  | .lor => if len = 1 then mj_binl (fun x y => x ||| y) pc L st w else none
  | .lshl => if len = 1 then match st with
    | .int y :: .long x :: r => mj_nx (pc + 1) L (.long (x <<< (y.toInt64 &&& 63)) :: r) w
    | _ => none
    else none
  | .lushr => if len = 1 then match st with
    | .int y :: .long x :: r => mj_nx (pc + 1) L (.long (x.toUInt64 >>> (y.toInt64.toUInt64 &&& Int64.toUInt64 63)).toInt64 :: r) w
    | _ => none
    else none
  | .lcmp => if len = 1 then match st with
    | .long y :: .long x :: r => mj_nx (pc + 1) L (.int (lg_cmp x y) :: r) w
    | _ => none
    else none
  | .dup => if len = 1 then match st with
    | v :: r => if v.category = 1 then mj_nx (pc + 1) L (v :: v :: r) w else none
    | _ => none
    else none
  | .pop => if len = 1 then match st with
    | v :: r => if v.category = 1 then mj_nx (pc + 1) L r w else none
    | _ => none
    else none
  | .dup2 => if len = 1 then match st with
    | a :: b :: r => if a.category = 1 ∧ b.category = 1 then mj_nx (pc + 1) L (a :: b :: a :: b :: r) w else none
    | _ => none
    else none
  | .goto off => if len = 3 then mj_jmp pc off L st w else none
  | .ifCond c off => if len = 3 then match st with
    | .int x :: r => mj_if (mj_cmp c x 0) pc off L r w
    | _ => none
    else none
  | .if_icmp c off => if len = 3 then match st with
    | .int y :: .int x :: r => mj_if (mj_cmp c x y) pc off L r w
    | _ => none
    else none
  | .tableswitch d lo hi offs => match st with
    | .int x :: r => mj_tsw d lo hi offs x pc L r w
    | _ => none
  | .getfield ix => if len = 3 then mj_getf (mj_pool M.2.2.2.2.2.1 ix) pc L st w else none
  | .putfield ix => if len = 3 then mj_putf M (mj_pool M.2.2.2.2.2.1 ix) pc L st w else none
  | .getstatic ix => if len = 3 then mj_gets (mj_pool M.2.2.2.2.2.1 ix) pc L st w else none
  | .ldc ix => if len = 2 then mj_ldc (mj_pool M.2.2.2.2.2.1 ix) (pc + 2) L st w else none
  | .ldc_w ix => if len = 3 then mj_ldc (mj_pool M.2.2.2.2.2.1 ix) (pc + 3) L st w else none
  | .ldc2_w ix => if len = 3 then mj_ldc2 (mj_pool M.2.2.2.2.2.1 ix) (pc + 3) L st w else none
  | .new ix => if len = 3 then mj_new M (mj_pool M.2.2.2.2.2.1 ix) pc L st w else none
  | .newarray t => if len = 2 then mj_nar t pc L st w else none
  | .anewarray ix => if len = 3 then mj_anew (mj_pool M.2.2.2.2.2.1 ix) pc L st w else none
  | .aastore => if len = 1 then mj_aast pc L st w else none
  | .aaload => if len = 1 then mj_aald pc L st w else none
  | .iaload => if len = 1 then mj_iald pc X L st w else none
  | .baload => if len = 1 then mj_bald pc X L st w else none
  | .laload => if len = 1 then mj_lald pc L st w else none
  | .iastore => if len = 1 then mj_iast pc L st w else none
  | .bastore => if len = 1 then mj_bast pc L st w else none
  | .lastore => if len = 1 then mj_last pc L st w else none
  | .arraylength => if len = 1 then mj_alen pc X L st w else none
  | .invokevirtual ix => if len = 3 then mj_invv (mj_pool M.2.2.2.2.2.1 ix) st w else none
  | .invokespecial ix => if len = 3 then mj_invi (mj_pool M.2.2.2.2.2.1 ix) pc L st w else none
  | .invokestatic ix => if len = 3 then mj_invs (mj_pool M.2.2.2.2.2.1 ix) pc L st w else none
  | .ireturn => if len = 1 then mj_iret M st w else none
  | .areturn => if len = 1 then mj_aret M st w else none
  | .return_ => if len = 1 then mj_vret M st w else none
  | _ => none
def mj_sl (args : List Value) : mj_L := args.flatMap fun v => if v.category = 2 then [some v, none] else [some v]
def mj_entry (n : Nat) (args : List Value) : mj_L := mj_sl args ++ List.replicate (n - (mj_sl args).length) none
/-- which handler takes exception e at pc -/
def mj_catch (c : Nat) (hh : List (Nat × Nat × Nat × Nat)) (pc e : Nat) : Option Nat := match hh with
  | [] => none
  | h :: r => if h.1 ≤ pc ∧ pc < h.2.1 then match mj_pool c h.2.2.2 with
      | some (9, e', _) => if e' = e then some h.2.2.1 else mj_catch c r pc e
      | _ => none
    else mj_catch c r pc e
/-- the handler's first instruction puts the exception away -/
def mj_hand (M : mj_M) (h : Nat) (L : mj_L) : Option (Nat × mj_L) := match decode M.2.1 h with
  | .ok (.astore_n k, 1) => if (k : Nat) < L.length ∧ mj_ok1 L k = true then some (h + 1, L.set k none) else none
  | .ok (.astore k, 2) => if k < L.length ∧ mj_ok1 L k = true then some (h + 2, L.set k none) else none
  | _ => none
def mj_run (X : mj_X) : Nat → Nat → Nat → Nat → mj_L → List Value → mj_W → Option (mj_O × mj_W)
  | 0, _, _, _, _, _, _ => none
  | n + 1, d, y, pc, L, st, w => match mj_meth y with
    | none => none
    | some M => match decode M.2.1 pc with
      | .error _ => none
      | .ok (i, len) => match mj_step X M i len pc L st w with
        | none => none
        | some (.inl (pc', L', st', w')) => mj_run X n d y pc' L' st' w'
        | some (.inr (.inl o)) => some o
        | some (.inr (.inr (z, args, rest))) => match d, mj_meth z with
          | d' + 1, some Z => if (mj_sl args).length ≤ Z.2.2.1 then match mj_run X n d' z 0 (mj_entry Z.2.2.1 args) [] w with
            | none => none
            | some (.inl v, w') => mj_run X n d y (pc + 3) L (v.toList ++ rest) w'
            | some (.inr e, w') => if M.2.2.2.2.2.2.2 = [] then some (.inr e, w') else match mj_catch M.2.2.2.2.2.1 M.2.2.2.2.2.2.2 pc e with
              | none => none
              | some h => match mj_hand M h L with
                | none => none
                | some (pc', L') => mj_run X n d y pc' L' [] w'
            else none
          | _, _ => none
