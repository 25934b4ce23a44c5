/-! how many bits a long has -/
def M5 : Nat → Nat | 0 => 0 | n + 1 => 85 + 256 * M5 n
def M3 : Nat → Nat | 0 => 0 | n + 1 => 51 + 256 * M3 n
def MF : Nat → Nat | 0 => 0 | n + 1 => 15 + 256 * MF n
theorem and_split {l m h k : Nat} (hl : l < 256) (hm : m < 256) : (l + 256 * h) &&& (m + 256 * k) = (l &&& m) + 256 * (h &&& k) := by
  have e1 : ((l + 256 * h) &&& (m + 256 * k)) % 2 ^ 8 = l &&& m := by
    rw [Nat.and_mod_two_pow, show (l + 256 * h) % 2 ^ 8 = l by omega, show (m + 256 * k) % 2 ^ 8 = m by omega]
  have e2 : ((l + 256 * h) &&& (m + 256 * k)) / 2 ^ 8 = h &&& k := by
    rw [Nat.and_div_two_pow, show (l + 256 * h) / 2 ^ 8 = h by omega, show (m + 256 * k) / 2 ^ 8 = k by omega]
  omega
def gA (b : Nat) : Nat := b - (b / 2 &&& 85)
def gB (b : Nat) : Nat := (b &&& 51) + (b / 4 &&& 51)
def gC (b : Nat) : Nat := (b + b / 16) &&& 15
theorem sA {b h n : Nat} (hb : b < 256) : (b + 256 * h) - ((b + 256 * h) / 2 &&& M5 (n + 1)) = gA b + 256 * (h - (h / 2 &&& M5 n)) := by
  have e : (b + 256 * h) / 2 = (b / 2 + 128 * (h % 2)) + 256 * (h / 2) := by omega
  have d1 : ∀ b, b < 256 → ∀ c, c < 2 → (b / 2 + 128 * c) &&& 85 = b / 2 &&& 85 := by decide +kernel
  rw [e, M5, and_split (by omega) (by decide), d1 b hb _ (Nat.mod_lt _ (by decide))]
  have l1 : b / 2 &&& 85 ≤ b / 2 := Nat.and_le_left
  have l2 : h / 2 &&& M5 n ≤ h / 2 := Nat.and_le_left
  unfold gA
  omega
theorem sB {b h n : Nat} (hb : b < 256) : ((b + 256 * h) &&& M3 (n + 1)) + ((b + 256 * h) / 4 &&& M3 (n + 1)) = gB b + 256 * ((h &&& M3 n) + (h / 4 &&& M3 n)) := by
  have e : (b + 256 * h) / 4 = (b / 4 + 64 * (h % 4)) + 256 * (h / 4) := by omega
  have d1 : ∀ b, b < 256 → ∀ c, c < 4 → (b / 4 + 64 * c) &&& 51 = b / 4 &&& 51 := by decide +kernel
  rw [e, M3, and_split (by omega) (by decide), and_split (by omega) (by decide), d1 b hb _ (Nat.mod_lt _ (by decide))]
  unfold gB
  omega
theorem sC {b h n : Nat} (hb : b ≤ 68) (hh : h % 16 ≤ 4) : ((b + 256 * h) + (b + 256 * h) / 16) &&& MF (n + 1) = gC b + 256 * ((h + h / 16) &&& MF n) := by
  have e : (b + 256 * h) + (b + 256 * h) / 16 = (b + b / 16 + 16 * (h % 16)) + 256 * (h + h / 16) := by omega
  have d1 : ∀ b, b < 69 → ∀ c, c < 5 → (b + b / 16 + 16 * c) &&& 15 = (b + b / 16) &&& 15 := by decide +kernel
  rw [e, MF, and_split (by omega) (by decide), d1 b (by omega) _ (by omega)]
  rfl
def cb (n x : Nat) : Nat := mr_it (fun i c => c + (x.testBit i).toNat) n 0
theorem g_ok : ∀ b, b < 256 → gA b < 256 ∧ gB (gA b) ≤ 68 ∧ gB (gA b) % 16 ≤ 4 ∧ gC (gB (gA b)) = cb 8 b ∧ cb 8 b ≤ 8 := by decide +kernel
theorem md_n {a h : Nat} (ha : a % 16 ≤ 4) : (a + 256 * h) % 16 ≤ 4 := by omega
theorem dv1 {l h : Nat} (hl : l < 256) : (l + 256 * h) / 256 = h := by omega
theorem dv2 {l m h : Nat} (hl : l < 256) (hm : m < 256) : (l + 256 * (m + 256 * h)) / 65536 = h := by omega
theorem dv4 {l m n o h : Nat} (hl : l < 256) (hm : m < 256) (hn : n < 256) (ho : o < 256) : (l + 256 * (m + 256 * (n + 256 * (o + 256 * h)))) / 4294967296 = h := by
  have e1 := dv2 (h := n + 256 * (o + 256 * h)) hl hm
  have e2 := dv2 (h := h) hn ho
  rw [show 4294967296 = 65536 * 65536 from rfl, ← Nat.div_div_eq_div_mul, e1, e2]
theorem ad_c {a b h k : Nat} : (a + 256 * h) + (b + 256 * k) = (a + b) + 256 * (h + k) := by omega
theorem bd_c {a h n : Nat} (ha : a < 256) (hh : h < 256 ^ n) : a + 256 * h < 256 ^ (n + 1) := by
  rw [Nat.pow_succ]
  omega
theorem bd_m {a h m : Nat} (ha : a < 256) (hh : h < m) : a + 256 * h < 256 * m := by omega
theorem md_c {a h : Nat} (ha : a ≤ 64) : (a + 256 * h) % 128 = a := by omega
theorem pop_N {b0 b1 b2 b3 b4 b5 b6 b7 : Nat} (h0 : b0 < 256) (h1 : b1 < 256) (h2 : b2 < 256) (h3 : b3 < 256) (h4 : b4 < 256) (h5 : b5 < 256) (h6 : b6 < 256) (h7 : b7 < 256) {x a b c : Nat} (hx : x = b0 + 256 * (b1 + 256 * (b2 + 256 * (b3 + 256 * (b4 + 256 * (b5 + 256 * (b6 + 256 * (b7 + 256 * 0)))))))) (ha : a = x - (x / 2 &&& M5 8)) (hb : b = (a &&& M3 8) + (a / 4 &&& M3 8)) (hc : c = (b + b / 16) &&& MF 8) : c = cb 8 b0 + 256 * (cb 8 b1 + 256 * (cb 8 b2 + 256 * (cb 8 b3 + 256 * (cb 8 b4 + 256 * (cb 8 b5 + 256 * (cb 8 b6 + 256 * (cb 8 b7 + 256 * 0))))))) ∧ a < 256 ^ 8 ∧ b < 69 * 256 ^ 7 := by
  obtain ⟨i0, j0, k0, l0, m0⟩ := g_ok b0 h0
  obtain ⟨i1, j1, k1, l1, m1⟩ := g_ok b1 h1
  obtain ⟨i2, j2, k2, l2, m2⟩ := g_ok b2 h2
  obtain ⟨i3, j3, k3, l3, m3⟩ := g_ok b3 h3
  obtain ⟨i4, j4, k4, l4, m4⟩ := g_ok b4 h4
  obtain ⟨i5, j5, k5, l5, m5⟩ := g_ok b5 h5
  obtain ⟨i6, j6, k6, l6, m6⟩ := g_ok b6 h6
  obtain ⟨i7, j7, k7, l7, m7⟩ := g_ok b7 h7
  have z1 : 0 - (0 / 2 &&& M5 0) = 0 := rfl
  have z2 : (0 &&& M3 0) + (0 / 4 &&& M3 0) = 0 := rfl
  have z3 : (0 + 0 / 16) &&& MF 0 = 0 := rfl
  rw [hx, sA h0, sA h1, sA h2, sA h3, sA h4, sA h5, sA h6, sA h7, z1] at ha
  rw [ha, sB i0, sB i1, sB i2, sB i3, sB i4, sB i5, sB i6, sB i7, z2] at hb
  rw [hb, sC j0 (md_n k1), sC j1 (md_n k2), sC j2 (md_n k3), sC j3 (md_n k4), sC j4 (md_n k5), sC j5 (md_n k6), sC j6 (md_n k7), sC j7 (by decide), z3, l0, l1, l2, l3, l4, l5, l6, l7] at hc
  refine ⟨hc, ?_, ?_⟩
  · rw [ha]
    exact bd_c i0 (bd_c i1 (bd_c i2 (bd_c i3 (bd_c i4 (bd_c i5 (bd_c i6 (bd_c i7 Nat.one_pos)))))))
  · rw [hb]
    exact Nat.lt_of_lt_of_eq (bd_m (Nat.lt_of_le_of_lt j0 (by decide)) (bd_m (Nat.lt_of_le_of_lt j1 (by decide)) (bd_m (Nat.lt_of_le_of_lt j2 (by decide)) (bd_m (Nat.lt_of_le_of_lt j3 (by decide)) (bd_m (Nat.lt_of_le_of_lt j4 (by decide)) (bd_m (Nat.lt_of_le_of_lt j5 (by decide)) (bd_m (Nat.lt_of_le_of_lt j6 (by decide)) (show gB (gA b7) + 256 * 0 < 69 from Nat.lt_succ_of_le j7)))))))) (by decide)
theorem mr_it_add {α : Type} {F : Nat → α → α} {a : α} (n : Nat) : ∀ m, mr_it F (n + m) a = mr_it (fun i => F (n + i)) m (mr_it F n a)
  | 0 => rfl
  | m + 1 => by rw [← Nat.add_assoc, mr_it, mr_it_add n m]; rfl
theorem it_sum {v : Nat → Nat} {a : Nat} : ∀ n, mr_it (fun i c => c + v i) n a = a + mr_it (fun i c => c + v i) n 0
  | 0 => rfl
  | n + 1 => by rw [mr_it, mr_it, it_sum n]; omega
theorem cb_s (n x : Nat) : cb (8 + n) x = cb 8 (x % 256) + cb n (x / 256) := by
  unfold cb
  rw [mr_it_add, it_sum]
  congr 1
  · refine mr_it_congr (fun i c hi => ?_)
    rw [show x % 256 = x % 2 ^ 8 from rfl, Nat.testBit_mod_two_pow, decide_eq_true hi, Bool.true_and]
  · refine mr_it_congr (fun i c hi => ?_)
    rw [show x / 256 = x / 2 ^ 8 from rfl, Nat.testBit_div_two_pow, Nat.add_comm 8 i]
theorem cb_8 (x : Nat) : cb 64 x = cb 8 (x % 256) + (cb 8 (x / 256 % 256) + (cb 8 (x / 256 / 256 % 256) + (cb 8 (x / 256 / 256 / 256 % 256) + (cb 8 (x / 256 / 256 / 256 / 256 % 256) + (cb 8 (x / 256 / 256 / 256 / 256 / 256 % 256) + (cb 8 (x / 256 / 256 / 256 / 256 / 256 / 256 % 256) + cb 8 (x / 256 / 256 / 256 / 256 / 256 / 256 / 256 % 256))))))) := by
  have e8 : ∀ y, cb 8 y = cb 8 (y % 256) := fun y => cb_s 0 y
  have s1 : ∀ n y, cb (8 + n) y = cb 8 (y % 256) + cb n (y / 256) := cb_s
  have q1 := s1 56 x
  have q2 := s1 48 (x / 256)
  have q3 := s1 40 (x / 256 / 256)
  have q4 := s1 32 (x / 256 / 256 / 256)
  have q5 := s1 24 (x / 256 / 256 / 256 / 256)
  have q6 := s1 16 (x / 256 / 256 / 256 / 256 / 256)
  have q7 := s1 8 (x / 256 / 256 / 256 / 256 / 256 / 256)
  rw [e8 (x / 256 / 256 / 256 / 256 / 256 / 256 / 256)] at q7
  refine q1.trans (congrArg _ (q2.trans (congrArg _ (q3.trans (congrArg _ (q4.trans (congrArg _ (q5.trans (congrArg _ (q6.trans (congrArg _ q7)))))))))))
theorem fold_N {c0 c1 c2 c3 c4 c5 c6 c7 : Nat} (h0 : c0 ≤ 8) (h1 : c1 ≤ 8) (h2 : c2 ≤ 8) (h3 : c3 ≤ 8) (h4 : c4 ≤ 8) (h5 : c5 ≤ 8) (h6 : c6 ≤ 8) (h7 : c7 ≤ 8) : ∀ c i j k : Nat, c = c0 + 256 * (c1 + 256 * (c2 + 256 * (c3 + 256 * (c4 + 256 * (c5 + 256 * (c6 + 256 * (c7 + 256 * (0)))))))) → i = c + c / 256 → j = i + i / 65536 → k = j + j / 4294967296 → k % 128 = c0 + (c1 + (c2 + (c3 + (c4 + (c5 + (c6 + c7)))))) ∧ i < 256 ^ 8 ∧ j < 256 ^ 8 ∧ k < 256 ^ 8 := by
  have y0 : c0 < 256 := by omega
  have i0 : (c0 + c1) < 256 := by omega
  have i1 : (c1 + c2) < 256 := by omega
  have i2 : (c2 + c3) < 256 := by omega
  have i3 : (c3 + c4) < 256 := by omega
  have i4 : (c4 + c5) < 256 := by omega
  have i5 : (c5 + c6) < 256 := by omega
  have i6 : (c6 + c7) < 256 := by omega
  have i7 : (c7 + 0) < 256 := by omega
  have j0 : (c0 + c1 + (c2 + c3)) < 256 := by omega
  have j1 : (c1 + c2 + (c3 + c4)) < 256 := by omega
  have j2 : (c2 + c3 + (c4 + c5)) < 256 := by omega
  have j3 : (c3 + c4 + (c5 + c6)) < 256 := by omega
  have j4 : (c4 + c5 + (c6 + c7)) < 256 := by omega
  have j5 : (c5 + c6 + (c7 + 0)) < 256 := by omega
  have j6 : (c6 + c7 + 0) < 256 := by omega
  have j7 : (c7 + 0 + 0) < 256 := by omega
  have k0 : ((c0 + c1 + (c2 + c3)) + (c4 + c5 + (c6 + c7))) < 256 := by omega
  have k1 : ((c1 + c2 + (c3 + c4)) + (c5 + c6 + (c7 + 0))) < 256 := by omega
  have k2 : ((c2 + c3 + (c4 + c5)) + (c6 + c7 + 0)) < 256 := by omega
  have k3 : ((c3 + c4 + (c5 + c6)) + (c7 + 0 + 0)) < 256 := by omega
  have m0 : ((c0 + c1 + (c2 + c3)) + (c4 + c5 + (c6 + c7))) ≤ 64 := by omega
  have s0 : ((c0 + c1 + (c2 + c3)) + (c4 + c5 + (c6 + c7))) = c0 + (c1 + (c2 + (c3 + (c4 + (c5 + (c6 + c7)))))) := by omega
  have zz : 0 + 0 < 256 ^ 0 := Nat.one_pos
  clear h0 h1 h2 h3 h4 h5 h6 h7
  intro c i j k hc hi hj hk
  have z : c0 + 256 * (c1 + 256 * (c2 + 256 * (c3 + 256 * (c4 + 256 * (c5 + 256 * (c6 + 256 * (c7 + 256 * (0)))))))) = c0 + 256 * (c1 + 256 * (c2 + 256 * (c3 + 256 * (c4 + 256 * (c5 + 256 * (c6 + 256 * (c7 + 256 * (0 + 256 * 0)))))))) := rfl
  have e1 : c / 256 = c1 + 256 * (c2 + 256 * (c3 + 256 * (c4 + 256 * (c5 + 256 * (c6 + 256 * (c7 + 256 * (0 + 256 * (0)))))))) := by rw [hc, z]; exact dv1 y0
  have e2 : i = (c0 + c1) + 256 * ((c1 + c2) + 256 * ((c2 + c3) + 256 * ((c3 + c4) + 256 * ((c4 + c5) + 256 * ((c5 + c6) + 256 * ((c6 + c7) + 256 * ((c7 + 0) + 256 * (0 + 0)))))))) := by
    rw [hi, e1, hc, ad_c, ad_c, ad_c, ad_c, ad_c, ad_c, ad_c, ad_c]
  have e3 : i / 65536 = (c2 + c3) + 256 * ((c3 + c4) + 256 * ((c4 + c5) + 256 * ((c5 + c6) + 256 * ((c6 + c7) + 256 * ((c7 + 0) + 256 * (0 + 256 * (0 + 256 * (0)))))))) := by rw [e2]; exact dv2 i0 i1
  have e4 : j = (c0 + c1 + (c2 + c3)) + 256 * ((c1 + c2 + (c3 + c4)) + 256 * ((c2 + c3 + (c4 + c5)) + 256 * ((c3 + c4 + (c5 + c6)) + 256 * ((c4 + c5 + (c6 + c7)) + 256 * ((c5 + c6 + (c7 + 0)) + 256 * ((c6 + c7 + 0) + 256 * ((c7 + 0 + 0) + 256 * (0 + 0)))))))) := by
    rw [hj, e3, e2, ad_c, ad_c, ad_c, ad_c, ad_c, ad_c, ad_c, ad_c]
  have e5 : j / 4294967296 = (c4 + c5 + (c6 + c7)) + 256 * ((c5 + c6 + (c7 + 0)) + 256 * ((c6 + c7 + 0) + 256 * ((c7 + 0 + 0) + 256 * (0 + 256 * 0)))) := by rw [e4]; exact dv4 j0 j1 j2 j3
  have e6 : k = ((c0 + c1 + (c2 + c3)) + (c4 + c5 + (c6 + c7))) + 256 * (((c1 + c2 + (c3 + c4)) + (c5 + c6 + (c7 + 0))) + 256 * (((c2 + c3 + (c4 + c5)) + (c6 + c7 + 0)) + 256 * (((c3 + c4 + (c5 + c6)) + (c7 + 0 + 0)) + 256 * (((c4 + c5 + (c6 + c7)) + 256 * ((c5 + c6 + (c7 + 0)) + 256 * ((c6 + c7 + 0) + 256 * ((c7 + 0 + 0) + 256 * (0 + 0))))) + (0 + 256 * 0))))) := by
    rw [hk, e5, e4, ad_c, ad_c, ad_c, ad_c]
  refine ⟨?_, ?_, ?_, ?_⟩
  · rw [e6, md_c m0]; exact s0
  · rw [e2]; exact bd_c i0 (bd_c i1 (bd_c i2 (bd_c i3 (bd_c i4 (bd_c i5 (bd_c i6 (bd_c i7 zz)))))))
  · rw [e4]; exact bd_c j0 (bd_c j1 (bd_c j2 (bd_c j3 (bd_c j4 (bd_c j5 (bd_c j6 (bd_c j7 zz)))))))
  · rw [e6]; exact bd_c k0 (bd_c k1 (bd_c k2 (bd_c k3 (bd_c j4 (bd_c j5 (bd_c j6 (bd_c j7 zz)))))))
