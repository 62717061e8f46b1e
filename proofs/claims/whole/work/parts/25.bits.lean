/-! Counting bits -/
def bm (f : Nat → Nat) : Nat → Nat → Nat
  | 0, _ => 0
  | n + 1, x => f (x % 256) + 256 * bm f n (x / 256)
def sm (f : Nat → Nat) : Nat → Nat → Nat
  | 0, _ => 0
  | n + 1, x => f (x % 256) + sm f n (x / 256)
def mkb (c : Nat) : Nat → Nat
  | 0 => 0
  | n + 1 => c + 256 * mkb c n
theorem land_b {X Y : Nat} : X &&& Y = (X % 256 &&& Y % 256) + 256 * (X / 256 &&& Y / 256) := by
  have h1 : (X &&& Y) % 256 = X % 256 &&& Y % 256 := Nat.and_mod_two_pow (n := 8)
  have h2 : (X &&& Y) / 256 = X / 256 &&& Y / 256 := Nat.and_div_two_pow (n := 8)
  omega
def pf1 (b : Nat) : Nat := b - (b / 2 &&& 85)
def pf2 (b : Nat) : Nat := (b &&& 51) + (b / 4 &&& 51)
def pf3 (b : Nat) : Nat := (b + b / 16) &&& 15
set_option maxRecDepth 100000 in
theorem pb1 : ∀ b, b < 256 → ∀ e, e < 2 → (b / 2 + 128 * e) % 256 &&& 85 = b / 2 &&& 85 := by decide +kernel
set_option maxRecDepth 100000 in
theorem pb2 : ∀ b, b < 256 → ∀ e, e < 4 → (b / 4 + 64 * e) % 256 &&& 51 = b / 4 &&& 51 := by decide +kernel
set_option maxRecDepth 100000 in
theorem pb3 : ∀ b, b < 256 → b % 16 ≤ 4 → b / 16 ≤ 4 → ∀ e, e < 5 → (b + b / 16 + 16 * e) &&& 15 = (b + b / 16) &&& 15 ∧ b + b / 16 + 16 * e < 256 := by decide +kernel
set_option maxRecDepth 100000 in
theorem pb4 : ∀ b, b < 256 → pf1 b < 256 ∧ pf2 (pf1 b) % 16 ≤ 4 ∧ pf2 (pf1 b) / 16 ≤ 4 ∧ pf2 (pf1 b) < 256 := by decide +kernel
set_option maxRecDepth 100000 in
theorem pb5 : ∀ b, b < 256 → pf3 (pf2 (pf1 b)) = cntP (fun i => b.testBit i) 8 ∧ pf3 (pf2 (pf1 b)) ≤ 8 := by decide +kernel
theorem mkb_s (c n : Nat) (hc : c < 256) : mkb c (n + 1) % 256 = c ∧ mkb c (n + 1) / 256 = mkb c n := by
  simp only [mkb]; omega
theorem st1 : ∀ (n x : Nat), x < 256 ^ n → x - (x / 2 &&& mkb 85 n) = bm pf1 n x := by
  intro n
  induction n with
  | zero => intro x h; simp at h; subst h; rfl
  | succ n ih =>
    intro x h
    have hc : x / 256 < 256 ^ n := by rw [Nat.pow_succ] at h; omega
    have e := ih (x / 256) hc
    obtain ⟨m1, m2⟩ := mkb_s 85 n (by omega)
    have e1 : x / 2 &&& mkb 85 (n + 1) = (x % 256 / 2 &&& 85) + 256 * (x / 256 / 2 &&& mkb 85 n) := by
      rw [land_b, m1, m2]
      have a1 : x / 2 % 256 = (x % 256 / 2 + 128 * (x / 256 % 2)) % 256 := by omega
      have a2 : x / 2 / 256 = x / 256 / 2 := by omega
      rw [a1, a2, pb1 _ (Nat.mod_lt _ (by omega)) _ (Nat.mod_lt _ (by omega))]
    have b1 : x % 256 / 2 &&& 85 ≤ x % 256 / 2 := Nat.and_le_left
    have b2 : x / 256 / 2 &&& mkb 85 n ≤ x / 256 / 2 := Nat.and_le_left
    simp only [bm, pf1]
    rw [← e, e1]
    omega
theorem st2 : ∀ (n x : Nat), (x &&& mkb 51 n) + (x / 4 &&& mkb 51 n) = bm pf2 n x := by
  intro n
  induction n with
  | zero => intro x; simp [mkb, bm]
  | succ n ih =>
    intro x
    have e := ih (x / 256)
    obtain ⟨m1, m2⟩ := mkb_s 51 n (by omega)
    have e1 : x / 4 &&& mkb 51 (n + 1) = (x % 256 / 4 &&& 51) + 256 * (x / 256 / 4 &&& mkb 51 n) := by
      rw [land_b, m1, m2]
      have a1 : x / 4 % 256 = (x % 256 / 4 + 64 * (x / 256 % 4)) % 256 := by omega
      have a2 : x / 4 / 256 = x / 256 / 4 := by omega
      rw [a1, a2, pb2 _ (Nat.mod_lt _ (by omega)) _ (Nat.mod_lt _ (by omega))]
    have e2 : x &&& mkb 51 (n + 1) = (x % 256 &&& 51) + 256 * (x / 256 &&& mkb 51 n) := by rw [land_b, m1, m2]
    simp only [bm, pf2]
    rw [e1, e2, ← e]
    omega
theorem bm_bm (f g : Nat → Nat) (hg : ∀ b, b < 256 → g b < 256) : ∀ (n x : Nat), bm f n (bm g n x) = bm (fun b => f (g b)) n x := by
  intro n
  induction n with
  | zero => intro x; rfl
  | succ n ih =>
    intro x
    have h := hg (x % 256) (Nat.mod_lt _ (by omega))
    simp only [bm]
    rw [show (g (x % 256) + 256 * bm g n (x / 256)) % 256 = g (x % 256) by omega, show (g (x % 256) + 256 * bm g n (x / 256)) / 256 = bm g n (x / 256) by omega, ih]
theorem bm_m16 (g : Nat → Nat) (hg : ∀ b, b < 256 → g b % 16 ≤ 4) (n x : Nat) : bm g n x % 16 ≤ 4 := by
  cases n with
  | zero => simp [bm]
  | succ n =>
    have h := hg (x % 256) (Nat.mod_lt _ (by omega))
    simp only [bm]; omega
theorem st3 (g : Nat → Nat) (hg : ∀ b, b < 256 → g b % 16 ≤ 4 ∧ g b / 16 ≤ 4 ∧ g b < 256) : ∀ (n x : Nat), (bm g n x + bm g n x / 16) &&& mkb 15 n = bm (fun b => pf3 (g b)) n x := by
  intro n
  induction n with
  | zero => intro x; simp [mkb, bm]
  | succ n ih =>
    intro x
    have e := ih (x / 256)
    obtain ⟨m1, m2⟩ := mkb_s 15 n (by omega)
    obtain ⟨h1, h2, h3⟩ := hg (x % 256) (Nat.mod_lt _ (by omega))
    have h4 := bm_m16 g (fun b hb => (hg b hb).1) n (x / 256)
    obtain ⟨q1, q2⟩ := pb3 (g (x % 256)) h3 h1 h2 (bm g n (x / 256) % 16) (by omega)
    simp only [bm]
    rw [land_b, m1, m2]
    have a1 : (g (x % 256) + 256 * bm g n (x / 256) + (g (x % 256) + 256 * bm g n (x / 256)) / 16) % 256 = g (x % 256) + g (x % 256) / 16 + 16 * (bm g n (x / 256) % 16) := by omega
    have a2 : (g (x % 256) + 256 * bm g n (x / 256) + (g (x % 256) + 256 * bm g n (x / 256)) / 16) / 256 = bm g n (x / 256) + bm g n (x / 256) / 16 := by omega
    rw [a1, a2, q1, e]
    rfl
theorem cntP_add (p : Nat → Bool) (a n : Nat) : cntP p (a + n) = cntP p a + cntP (fun i => p (a + i)) n := by
  induction n with
  | zero => rfl
  | succ n ih => rw [← Nat.add_assoc]; simp only [cntP]; rw [ih]; omega
theorem cntP_congr {p q : Nat → Bool} {n : Nat} (h : ∀ i, i < n → p i = q i) : cntP p n = cntP q n := by
  induction n with
  | zero => rfl
  | succ n ih => simp only [cntP]; rw [ih (fun i hi => h i (by omega)), h n (by omega)]
theorem cnt_sm (f : Nat → Nat) (hf : ∀ b, b < 256 → f b = cntP (fun i => b.testBit i) 8) : ∀ (n x : Nat), cntP (fun i => x.testBit i) (8 * n) = sm f n x := by
  intro n
  induction n with
  | zero => intro x; rfl
  | succ n ih =>
    intro x
    rw [show 8 * (n + 1) = 8 + 8 * n by omega, cntP_add]
    simp only [sm]
    rw [← ih (x / 256), hf _ (Nat.mod_lt _ (by omega))]
    congr 1
    · refine cntP_congr (fun i hi => ?_)
      rw [show (256 : Nat) = 2 ^ 8 from rfl, Nat.testBit_mod_two_pow]
      simp [hi]
    · refine cntP_congr (fun i _ => ?_)
      rw [show (256 : Nat) = 2 ^ 8 from rfl, Nat.testBit_div_two_pow, Nat.add_comm]
theorem ql {p0 p1 p2 p3 q0 q1 q2 q3 q4 : Nat} (h0 : p0 ≤ 8) (h1 : p1 ≤ 8) (h2 : p2 ≤ 8) (h3 : p3 ≤ 8) (e0 : q0 = p0 + 256 * q1) (e1 : q1 = p1 + 256 * q2) (e2 : q2 = p2 + 256 * q3) (e3 : q3 = p3 + 256 * q4) : ∃ lq, lq ≤ 134744072 ∧ q0 = lq + 4294967296 * q4 := by
  refine ⟨p0 + 256 * p1 + 65536 * p2 + 16777216 * p3, by omega, ?_⟩
  subst e0 e1 e2 e3
  omega
theorem am {a b x y : Nat} (h1 : a % 128 = x) (h2 : b % 128 = y) (h3 : x + y < 128) : (a + b) % 128 = x + y := by omega
theorem st6 {p0 p1 p2 p3 p4 p5 p6 p7 q0 q1 q2 q3 q4 q5 q6 q7 : Nat} (h0 : p0 ≤ 8) (h1 : p1 ≤ 8) (h2 : p2 ≤ 8) (h3 : p3 ≤ 8) (h4 : p4 ≤ 8) (h5 : p5 ≤ 8) (h6 : p6 ≤ 8) (h7 : p7 ≤ 8)
    (e0 : q0 = p0 + 256 * q1) (e1 : q1 = p1 + 256 * q2) (e2 : q2 = p2 + 256 * q3) (e3 : q3 = p3 + 256 * q4) (e4 : q4 = p4 + 256 * q5) (e5 : q5 = p5 + 256 * q6) (e6 : q6 = p6 + 256 * q7) (e7 : q7 = p7) :
    q0 < 600000000000000000 ∧ q0 / 256 = q1 ∧ (q0 + q1) / 65536 = q2 + q3 ∧ (q0 + q1 + (q2 + q3)) / 4294967296 = q4 + q5 + (q6 + q7) ∧ (q0 + q1 + (q2 + q3) + (q4 + q5 + (q6 + q7))) % 128 = p0 + p1 + p2 + p3 + p4 + p5 + p6 + p7 ∧ q0 + q1 + (q2 + q3) + (q4 + q5 + (q6 + q7)) < 4000000000000000000 := by
  have b7 : q7 ≤ 8 := by omega
  have b6 : q6 ≤ 2056 := by clear e0 e1 e2 e3 e4 e5; omega
  have b5 : q5 ≤ 526344 := by clear e0 e1 e2 e3 e4 e6 e7; omega
  have b4 : q4 ≤ 134744072 := by clear e0 e1 e2 e3 e5 e6 e7; omega
  have b3 : q3 ≤ 34494482440 := by clear e0 e1 e2 e4 e5 e6 e7; omega
  have b2 : q2 ≤ 8830587504648 := by clear e0 e1 e3 e4 e5 e6 e7; omega
  have b1 : q1 ≤ 2260630401189896 := by clear e0 e2 e3 e4 e5 e6 e7; omega
  have b0 : q0 ≤ 578721382704613384 := by clear e1 e2 e3 e4 e5 e6 e7; omega
  obtain ⟨l0, i0, j0⟩ := ql h0 h1 h2 h3 e0 e1 e2 e3
  obtain ⟨l1, i1, j1⟩ := ql h1 h2 h3 h4 e1 e2 e3 e4
  obtain ⟨l2, i2, j2⟩ := ql h2 h3 h4 h5 e2 e3 e4 e5
  obtain ⟨l3, i3, j3⟩ := ql h3 h4 h5 h6 e3 e4 e5 e6
  refine ⟨by omega, ?_, ?_, ?_, ?_, by omega⟩
  · clear e1 e2 e3 e4 e5 e6 e7 j0 j1 j2 j3; omega
  · clear e3 e4 e5 e6 e7 j0 j1 j2 j3; omega
  · clear e0 e1 e2 e3 e4 e5 e6 e7; omega
  · clear j0 j1 j2 j3 b0 b1 b2 b3 b4 b5 b6 b7
    have m0 : q0 % 128 = p0 % 128 := by clear e1 e2 e3 e4 e5 e6 e7; omega
    have m1 : q1 % 128 = p1 % 128 := by clear e0 e2 e3 e4 e5 e6 e7; omega
    have m2 : q2 % 128 = p2 % 128 := by clear e0 e1 e3 e4 e5 e6 e7; omega
    have m3 : q3 % 128 = p3 % 128 := by clear e0 e1 e2 e4 e5 e6 e7; omega
    have m4 : q4 % 128 = p4 % 128 := by clear e0 e1 e2 e3 e5 e6 e7; omega
    have m5 : q5 % 128 = p5 % 128 := by clear e0 e1 e2 e3 e4 e6 e7; omega
    have m6 : q6 % 128 = p6 % 128 := by clear e0 e1 e2 e3 e4 e5 e7; omega
    have m7 : q7 % 128 = p7 % 128 := by rw [e7]
    clear e0 e1 e2 e3 e4 e5 e6 e7
    rw [Nat.mod_eq_of_lt (show p0 < 128 by omega)] at m0
    rw [Nat.mod_eq_of_lt (show p1 < 128 by omega)] at m1
    rw [Nat.mod_eq_of_lt (show p2 < 128 by omega)] at m2
    rw [Nat.mod_eq_of_lt (show p3 < 128 by omega)] at m3
    rw [Nat.mod_eq_of_lt (show p4 < 128 by omega)] at m4
    rw [Nat.mod_eq_of_lt (show p5 < 128 by omega)] at m5
    rw [Nat.mod_eq_of_lt (show p6 < 128 by omega)] at m6
    rw [Nat.mod_eq_of_lt (show p7 < 128 by omega)] at m7
    have z := am (am (am m0 m1 (by omega)) (am m2 m3 (by omega)) (by omega)) (am (am m4 m5 (by omega)) (am m6 m7 (by omega)) (by omega)) (by omega)
    omega
def uL (x : Int64) : Nat := x.toBitVec.toNat
theorem uL_lt (x : Int64) : uL x < 18446744073709551616 := x.toBitVec.isLt
theorem uL_shr (x : Int64) {t : Nat} (ht : t < 64) : uL (x.toUInt64 >>> ((nI t).toInt64.toUInt64 &&& Int64.toUInt64 63)).toInt64 = uL x / 2 ^ t := by
  show (x.toBitVec >>> (((nI t).toInt64.toUInt64 &&& Int64.toUInt64 63).toBitVec % 64)).toNat = _
  rw [amt63u t ht]
  rw [show (BitVec.ofNat 64 t % 64) = BitVec.ofNat 64 t from BitVec.eq_of_toNat_eq (by simp; omega)]
  rw [BitVec.ushiftRight_eq', BitVec.toNat_ushiftRight, Nat.shiftRight_eq_div_pow]
  simp only [BitVec.toNat_ofNat]
  rw [Nat.mod_eq_of_lt (show t < 2 ^ 64 by omega)]
  rfl
theorem uL_and (x y : Int64) : uL (x &&& y) = uL x &&& uL y := by
  show (x &&& y).toBitVec.toNat = _
  rw [Int64.toBitVec_and, BitVec.toNat_and]; rfl
theorem uL_add {x y : Int64} (h : uL x + uL y < 18446744073709551616) : uL (x + y) = uL x + uL y := by
  show (x + y).toBitVec.toNat = _
  rw [Int64.toBitVec_add, BitVec.toNat_add]
  exact Nat.mod_eq_of_lt h
theorem uL_sub {x y : Int64} (h : uL y ≤ uL x) : uL (x - y) = uL x - uL y := by
  show (x - y).toBitVec.toNat = _
  rw [Int64.toBitVec_sub, BitVec.toNat_sub]
  have h1 := uL_lt x
  have h2 := uL_lt y
  unfold uL at *
  omega
theorem uL_bt (x : Int64) (i : Nat) : bt x i = (uL x).testBit i := by
  show x.toBitVec.getLsbD i = _
  rw [← BitVec.testBit_toNat]; rfl
theorem l2i_and {x : Int64} {n : Nat} (h : uL x % 128 = n) : x.toInt32 &&& nI 127 = nI n := by
  have e : x.toInt32.toBitVec.toNat % 128 = n := by
    show (x.toBitVec.signExtend 32).toNat % 128 = n
    rw [BitVec.signExtend_eq_setWidth_of_le _ (by omega), BitVec.toNat_setWidth]
    unfold uL at h
    omega
  have h2 := pk_and x.toInt32 (m := nI 127) 7 (by decide +kernel)
  rw [h2, show (2 : Nat) ^ 7 = 128 from rfl, e]
theorem swar {x y1 y2 y3 y4 y5 y6 : Nat} (hx : x < 256 ^ 8) (e1 : y1 = x - (x / 2 &&& 6148914691236517205)) (e2 : y2 = (y1 &&& 3689348814741910323) + (y1 / 4 &&& 3689348814741910323)) (e3 : y3 = (y2 + y2 / 16) &&& 1085102592571150095) (e4 : y4 = y3 + y3 / 256) (e5 : y5 = y4 + y4 / 65536) (e6 : y6 = y5 + y5 / 4294967296) :
    y2 + y2 / 16 < 18446744073709551616 ∧ y6 < 4000000000000000000 ∧ y4 ≤ y6 ∧ y5 ≤ y6 ∧ y6 % 128 = cntP (fun i => x.testBit i) 64 := by
  have m1 : mkb 85 8 = 6148914691236517205 := by decide +kernel
  have m2 : mkb 51 8 = 3689348814741910323 := by decide +kernel
  have m3 : mkb 15 8 = 1085102592571150095 := by decide +kernel
  rw [← m1, st1 8 x hx] at e1
  rw [← m2, st2 8 y1, e1, bm_bm pf2 pf1 (fun b hb => (pb4 b hb).1)] at e2
  rw [← m3, e2, st3 (fun b => pf2 (pf1 b)) (fun b hb => ⟨(pb4 b hb).2.1, (pb4 b hb).2.2.1, (pb4 b hb).2.2.2⟩)] at e3
  have hc := cnt_sm (fun b => pf3 (pf2 (pf1 b))) (fun b hb => (pb5 b hb).1) 8 x
  have hb8 : ∀ z, pf3 (pf2 (pf1 (z % 256))) ≤ 8 := fun z => (pb5 _ (Nat.mod_lt _ (by omega))).2
  have hg4 : ∀ z, pf2 (pf1 (z % 256)) ≤ 68 := fun z => by have := pb4 (z % 256) (Nat.mod_lt _ (by omega)); omega
  have hy2 : y2 ≤ 68 * 72340172838076673 := by
    rw [e2]
    simp only [bm]
    have k0 := hg4 x
    have k1 := hg4 (x / 256)
    have k2 := hg4 (x / 256 / 256)
    have k3 := hg4 (x / 256 / 256 / 256)
    have k4 := hg4 (x / 256 / 256 / 256 / 256)
    have k5 := hg4 (x / 256 / 256 / 256 / 256 / 256)
    have k6 := hg4 (x / 256 / 256 / 256 / 256 / 256 / 256)
    have k7 := hg4 (x / 256 / 256 / 256 / 256 / 256 / 256 / 256)
    generalize pf2 (pf1 (x % 256)) = a0 at *
    generalize pf2 (pf1 (x / 256 % 256)) = a1 at *
    generalize pf2 (pf1 (x / 256 / 256 % 256)) = a2 at *
    generalize pf2 (pf1 (x / 256 / 256 / 256 % 256)) = a3 at *
    generalize pf2 (pf1 (x / 256 / 256 / 256 / 256 % 256)) = a4 at *
    generalize pf2 (pf1 (x / 256 / 256 / 256 / 256 / 256 % 256)) = a5 at *
    generalize pf2 (pf1 (x / 256 / 256 / 256 / 256 / 256 / 256 % 256)) = a6 at *
    generalize pf2 (pf1 (x / 256 / 256 / 256 / 256 / 256 / 256 / 256 % 256)) = a7 at *
    clear hb8 hg4 hc e3 e4 e5 e6 e2 e1 hx
    omega
  have k0 := hb8 x
  have k1 := hb8 (x / 256)
  have k2 := hb8 (x / 256 / 256)
  have k3 := hb8 (x / 256 / 256 / 256)
  have k4 := hb8 (x / 256 / 256 / 256 / 256)
  have k5 := hb8 (x / 256 / 256 / 256 / 256 / 256)
  have k6 := hb8 (x / 256 / 256 / 256 / 256 / 256 / 256)
  have k7 := hb8 (x / 256 / 256 / 256 / 256 / 256 / 256 / 256)
  obtain ⟨t1, t2, t3, t4, t5, t6⟩ := st6 k0 k1 k2 k3 k4 k5 k6 k7 rfl rfl rfl rfl rfl rfl rfl rfl
  have e3' : y3 = _ := e3
  simp only [bm, Nat.mul_zero, Nat.add_zero] at e3
  simp only [sm, Nat.add_zero] at hc
  rw [e3, t2] at e4
  rw [e4, t3] at e5
  rw [e5, t4] at e6
  refine ⟨by clear t1 t2 t3 t4 t5 t6 e4 e5 e6 e3 e3' hc; omega, by rw [e6]; exact t6, by rw [e6, e4]; clear t1 t2 t3 t4 t5 t6 hc; omega, by rw [e6, e5]; clear t1 t2 t3 t4 t5 t6 hc; omega, ?_⟩
  rw [e6, t5, show (64 : Nat) = 8 * 8 from rfl, hc]
  clear t1 t2 t3 t4 t5 t6 hc e3 e3' e4 e5 e6
  omega
