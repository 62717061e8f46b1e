/-! The class's heap and the reference's: what they have in common -/
def CpA (x : Nat) (I : Nat → Nat → Int32) (m : Nat) (Im : Nat → Nat → Int32) (nn s nc nv ce : Nat) : Prop :=
  (nn ≤ 64 ∧ 0 < s ∧ s ≤ 64 ∧ nc = nch nn s ∧ nv ≤ 60 ∧ ce ≤ 64 * nv) ∧
  (I x 5 = nI nn ∧ I x 6 = nI s ∧ I x 7 = nI nc ∧ I x 8 = nI nv ∧ I x 10 = nI ce) ∧
  (Im m 0 = nI nn ∧ Im m 2 = nI nc ∧ Im m 4 = nI nv ∧ Im m 5 = nI ce ∧ Im m 3 = I x 12) ∧
  ((nv = 0 ∧ nn = 0 ∧ Im m 1 = nI 0) ∨ (0 < nv ∧ 0 < nn ∧ Im m 1 = nI s))
def CpV (x : Nat) (R : Nat → Nat → Nat) (I : Nat → Nat → Int32) (J : Nat → Nat → Int64) (m : Nat) (Im : Nat → Nat → Int32) (Jm : Nat → Nat → Int64) (nc nv : Nat) : Prop :=
  ∀ v, v < nv → R (x + 1) v ≠ 0 ∧ (I (R (x + 1) v) 0 = nI v ∧ I (R (x + 1) v) 1 = Im (m + 4) v ∧ I (R (x + 1) v) 2 = Im (m + 5) v ∧ I (R (x + 1) v) 3 = Im (m + 6) v) ∧
    (∀ k, k < nc → I (R (x + 1) v + 3) k = Im (m + 3) (64 * v + k)) ∧ (∀ n c, n < 64 → c < 66 → itF (J (R (x + 1) v + 1)) (J (R (x + 1) v + 2)) n c = itm Jm m v n c)
def CpW (m : Nat) (Im : Nat → Nat → Int32) (Jm : Nat → Nat → Int64) (nn nc nv ce : Nat) : Prop :=
  ∀ v, v < nv → (∀ n c, n < 64 → nn ≤ c → c < 64 → itm Jm m v n c = 0) ∧ (∀ k, k < nc → ∃ id, id < ce ∧ Im (m + 3) (64 * v + k) = nI id) ∧ (0 < v → ∃ p, p < v ∧ Im (m + 4) v = nI p)
def CpZ (x : Nat) (R : Nat → Nat → Nat) (J : Nat → Nat → Int64) : Prop :=
  R (x + 1) 0 ≠ 0 → (∀ n, n < 64 → J (R (x + 1) 0 + 1) n = 0) ∧ (∀ n, n < 128 → J (R (x + 1) 0 + 2) n = 0)
def CpN (x : Nat) (I : Nat → Nat → Int32) (m : Nat) (Im : Nat → Nat → Int32) (nc nv ce : Nat) : Prop :=
  ∃ ng nh, I x 9 = nI ng ∧ lfN Im m nv + ng = nv ∧ I x 11 = nI nh ∧ hN Im m nc nv + nh = ce
/-- the rows that were compared last -/
def CpR (x : Nat) (R : Nat → Nat → Nat) (I : Nat → Nat → Int32) (J : Nat → Nat → Int64) (m : Nat) (Im : Nat → Nat → Int32) (Jm : Nat → Nat → Int64) (nn nv : Nat) : Prop :=
  (Im m 12 = 0 ∧ R x 3 = 0 ∧ R x 4 = 0 ∧ Im m 13 = 0 ∧ I (x + 2) 0 = 0 ∧ (∀ n, n < 64 → J (x + 3) n = 0 ∧ J (x + 4) n = 0)) ∨
  ∃ ca cb, ca < nv ∧ cb < nv ∧ Im m 12 = 1 ∧ R x 3 = R (x + 1) ca ∧ R x 4 = R (x + 1) cb ∧ Im m 13 = nI (rowL Jm m nn ca cb).length ∧ I (x + 2) 0 = nI (rowL Jm m nn ca cb).length ∧
    (∀ (i : Nat) (q : Nat × Nat), (rowL Jm m nn ca cb)[i]? = some q → Im (m + 7) i = nI q.1 ∧ Im (m + 8) i = tN q.2 ∧ Jm (m + 9) i = itm Jm m ca q.1 q.2 ∧ Jm (m + 10) i = itm Jm m cb q.1 q.2) ∧
    (∀ n, n < nn → J (x + 3) n = J (R (x + 1) ca + 1) n ^^^ J (R (x + 1) cb + 1) n ∧ J (x + 4) n = rC J (R (x + 1) ca) (R (x + 1) cb) n) ∧ (∀ n, nn ≤ n → n < 64 → J (x + 3) n = 0 ∧ J (x + 4) n = 0)
/-- the conflicts that were told last -/
def CpC (x : Nat) (I : Nat → Nat → Int32) (J : Nat → Nat → Int64) (m : Nat) (Im : Nat → Nat → Int32) : Prop :=
  ∃ LQ : List (Nat × Nat), LQ.length ≤ 4224 ∧ (∀ (i : Nat) (q : Nat × Nat), LQ[i]? = some q → q.1 < 64 ∧ q.2 < 66 ∧ Im (m + 11) i = nI q.1 ∧ Im (m + 12) i = tN q.2) ∧ fL (J (x + 6)) (J (x + 7)) 64 = LQ.map (fun q => q.1 * 66 + q.2) ∧ I (x + 5) 0 = nI LQ.length ∧ Im m 18 = nI LQ.length
def Cp (x : Nat) (R : Nat → Nat → Nat) (I : Nat → Nat → Int32) (J : Nat → Nat → Int64) (m : Nat) (Im : Nat → Nat → Int32) (Jm : Nat → Nat → Int64) (nn s nc nv ce : Nat) : Prop :=
  CpA x I m Im nn s nc nv ce ∧ CpV x R I J m Im Jm nc nv ∧ CpW m Im Jm nn nc nv ce ∧ CpZ x R J ∧ CpN x I m Im nc nv ce ∧ CpR x R I J m Im Jm nn nv ∧ CpC x I J m Im
section
variable {x m : Nat} {K N : Nat → Nat} {R R2 : Nat → Nat → Nat} {I I2 Im Im2 : Nat → Nat → Int32} {J J2 Jm Jm2 : Nat → Nat → Int64} {nn s nc nv ce : Nat}
theorem rC_congr {a b n : Nat} (ha : J2 (a + 2) = J (a + 2)) (hb : J2 (b + 2) = J (b + 2)) : rC J2 a b n = rC J a b n := by
  unfold rC
  have : rDd J2 a b n = rDd J a b n := by funext c; simp only [rDd, ha, hb]
  rw [this]
theorem rowL_congr {va vb : Nat} (h : ∀ v n c, v = va ∨ v = vb → n < nn → c < 66 → itm Jm2 m v n c = itm Jm m v n c) (hnn : nn ≤ 64) : rowL Jm2 m nn va vb = rowL Jm m nn va vb := by
  unfold rowL
  refine lstP_ext fun n hn => ?_
  unfold nodL
  rw [filP_ext (p := uR Jm2 m nn va vb n) (q := uR Jm m nn va vb n) (fun p hp => ?_)]
  unfold uR
  rw [h va n _ (Or.inl rfl) hn (cdp_lt hnn hp), h vb n _ (Or.inr rfl) hn (cdp_lt hnn hp)]
theorem row_lt {va vb i : Nat} {q : Nat × Nat} (hnn : nn ≤ 64) (h : (rowL Jm m nn va vb)[i]? = some q) : q.1 < nn ∧ q.2 < 66 := by
  have := nod_mem hnn h
  exact ⟨this.1, this.2.1⟩
/-- the class's cells and the reference's cells are read alike -/
theorem Cp.ext (h : Cp x R I J m Im Jm nn s nc nv ce) (cw : CW x K N R) (hc : ∀ q, K q ≠ 0 → R2 q = R q ∧ I2 q = I q ∧ J2 q = J q) (hm : ∀ q, q < 13 → Im2 (m + q) = Im (m + q) ∧ Jm2 (m + q) = Jm (m + q)) : Cp x R2 I2 J2 m Im2 Jm2 nn s nc nv ce := by
  obtain ⟨hA, hV, hW, hZ, gN, gR, hC⟩ := h
  have kx := hc x (by rw [cw.k]; omega)
  have k1 := hc (x + 1) (by rw [cw.k0]; omega)
  have u1 := cw.2.2.2.2.1
  have u2 := cw.2.2.2.2.2.1
  have k2 := hc (x + 2) (by rw [u1.1]; omega)
  have k3 := hc (x + 3) (by have := u1.k1; simp only [Nat.add_assoc, Nat.reduceAdd] at this; omega)
  have k4 := hc (x + 4) (by have := u1.k2; simp only [Nat.add_assoc, Nat.reduceAdd] at this; omega)
  have k5 := hc (x + 5) (by rw [u2.1]; omega)
  have k6 := hc (x + 6) (by have := u2.k1; simp only [Nat.add_assoc, Nat.reduceAdd] at this; omega)
  have k7 := hc (x + 7) (by have := u2.k2; simp only [Nat.add_assoc, Nat.reduceAdd] at this; omega)
  have m0 := hm 0 (by omega)
  simp only [Nat.add_zero] at m0
  have m1 := hm 1 (by omega)
  have m2 := hm 2 (by omega)
  have m3 := hm 3 (by omega)
  have m4 := hm 4 (by omega)
  have m5 := hm 5 (by omega)
  have m6 := hm 6 (by omega)
  have m7 := hm 7 (by omega)
  have m8 := hm 8 (by omega)
  have m9 := hm 9 (by omega)
  have m10 := hm 10 (by omega)
  have m11 := hm 11 (by omega)
  have m12 := hm 12 (by omega)
  have kv : ∀ i, i < 60 → R (x + 1) i ≠ 0 → (I2 (R (x + 1) i) = I (R (x + 1) i) ∧ J2 (R (x + 1) i + 1) = J (R (x + 1) i + 1) ∧ J2 (R (x + 1) i + 2) = J (R (x + 1) i + 2) ∧ I2 (R (x + 1) i + 3) = I (R (x + 1) i + 3)) := by
    intro i hi h0
    have w := cw.wv hi h0
    exact ⟨(hc _ (by rw [w.k]; omega)).2.1, (hc _ (by rw [w.k4]; omega)).2.2, (hc _ (by rw [w.k5]; omega)).2.2, (hc _ (by rw [w.k6]; omega)).2.1⟩
  have hnv : nv ≤ 60 := hA.1.2.2.2.2.1
  have hnn : nn ≤ 64 := hA.1.1
  have hi : ∀ v n c, itm Jm2 m v n c = itm Jm m v n c := fun v n c => itm_congr m1.2 m2.2
  have hrl : ∀ a b, rowL Jm2 m nn a b = rowL Jm m nn a b := fun a b => rowL_congr (fun v n c _ _ _ => hi v n c) hnn
  have hal : ∀ w k, fsB Im2 m w k = fsB Im m w k := fun w k => by unfold fsB; rw [m3.1, m6.1]
  have hhN : ∀ v, hN Im2 m nc v = hN Im m nc v := by
    intro v
    induction v with
    | zero => rfl
    | succ v ih =>
      have : hR Im2 m nc v = hR Im m nc v := by
        unfold hR
        rw [m6.1, cntP_congr (p := fun k => fsB Im2 m v k) (q := fun k => fsB Im m v k) (fun k _ => hal v k)]
      simp only [hN, ih, this]
  have hlf : lfN Im2 m nv = lfN Im m nv := by unfold lfN; rw [m6.1]
  refine ⟨?_, fun v hv => ?_, fun v hv => ?_, ?_, ?_, ?_, ?_⟩
  · unfold CpA; rw [kx.2.1, m0.1]; exact hA
  · obtain ⟨h0, h1, h2, h3⟩ := hV v hv
    have q := kv v (by omega) h0
    rw [k1.1, q.1, q.2.1, q.2.2.1, q.2.2.2, m3.1, m4.1, m5.1, m6.1]
    exact ⟨h0, h1, h2, fun n c a b => by rw [hi]; exact h3 n c a b⟩
  · obtain ⟨h1, h2, h3⟩ := hW v hv
    rw [m3.1, m4.1]
    exact ⟨fun n c a b d => by rw [hi]; exact h1 n c a b d, h2, h3⟩
  · intro h0
    rw [k1.1] at h0 ⊢
    have q := kv 0 (by omega) h0
    rw [q.2.1, q.2.2.1]
    exact hZ h0
  · obtain ⟨ng, nh, h1, h2, h3, h4⟩ := gN
    exact ⟨ng, nh, by rw [kx.2.1]; exact h1, by rw [hlf]; exact h2, by rw [kx.2.1]; exact h3, by rw [hhN]; exact h4⟩
  · rcases gR with ⟨h1, h2, h3, h4, h5, h6⟩ | ⟨ca, cb, ha, hb, h1, h2, h3, h4, h5, h6, h7, h8⟩
    · left
      rw [m0.1, kx.1, k2.2.1, k3.2.2, k4.2.2]
      exact ⟨h1, h2, h3, h4, h5, h6⟩
    · right
      have qa := kv ca (by omega) (hV ca ha).1
      have qb := kv cb (by omega) (hV cb hb).1
      refine ⟨ca, cb, ha, hb, ?_⟩
      rw [m0.1, kx.1, k1.1, k2.2.1, k3.2.2, k4.2.2, m7.1, m8.1, m9.2, m10.2, hrl, qa.2.1, qb.2.1]
      refine ⟨h1, h2, h3, h4, h5, fun i q e => ?_, fun n hn => ?_, h8⟩
      · rw [hi, hi]; exact h6 i q e
      · rw [rC_congr qa.2.2.1 qb.2.2.1]; exact h7 n hn
  · unfold CpC
    rw [k6.2.2, k7.2.2, k5.2.1, m0.1, m11.1, m12.1]
    exact hC
theorem Cp.nvle (h : Cp x R I J m Im Jm nn s nc nv ce) : nv ≤ 60 := h.1.1.2.2.2.2.1
theorem Cp.hvv (h : Cp x R I J m Im Jm nn s nc nv ce) : ∀ i, i < nv → R (x + 1) i ≠ 0 := fun i hi => (h.2.1 i hi).1
theorem Cp.pl (h : Cp x R I J m Im Jm nn s nc nv ce) (q : Int32) : pL R I x nv q ↔ pV Im m nv q := by
  constructor
  · rintro ⟨h1, h2⟩; exact ⟨h1, by rw [← (h.2.1 _ h1.2).2.1.2.2.2]; exact h2⟩
  · rintro ⟨h1, h2⟩; exact ⟨h1, by rw [(h.2.1 _ h1.2).2.1.2.2.2]; exact h2⟩
theorem Cp.arc (h : Cp x R I J m Im Jm nn s nc nv ce) {v n c : Nat} (hv : v < nv) (hn : n < 64) (hc : c < 64) : bt (J (R (x + 1) v + 1) n) c = bt (Jm (m + 1) (64 * v + n)) c := by
  have := (h.2.1 v hv).2.2.2 n c hn (by omega)
  rw [itF_a hc, itm, if_pos hc] at this
  exact it_inj.mp this
theorem Cp.col (h : Cp x R I J m Im Jm nn s nc nv ce) {v n c : Nat} (hv : v < nv) (hn : n < 64) (hc : c < 2) : J (R (x + 1) v + 2) (n * 2 + c) = Jm (m + 2) (128 * v + 64 * c + n) := by
  have := (h.2.1 v hv).2.2.2 n (64 + c) hn (by omega)
  rw [itF_c, itm, if_neg (by omega), show 64 + c - 64 = c by omega] at this
  exact this
theorem Cp.kid (h : Cp x R I J m Im Jm nn s nc nv ce) {v k : Nat} (hv : v < nv) (hk : k < nc) : I (R (x + 1) v + 3) k = Im (m + 3) (64 * v + k) := (h.2.1 v hv).2.2.1 k hk
theorem Cp.par (h : Cp x R I J m Im Jm nn s nc nv ce) {v : Nat} (hv : v < nv) : I (R (x + 1) v) 1 = Im (m + 4) v := (h.2.1 v hv).2.1.2.1
theorem Cp.ncle (h : Cp x R I J m Im Jm nn s nc nv ce) : nc ≤ 64 := by
  have h1 : nc = nch nn s := h.1.1.2.2.2.1
  have h2 : nn ≤ 64 := h.1.1.1
  have h3 : 0 < s := h.1.1.2.1
  have : (nn + s - 1) / s ≤ 64 := by
    rw [Nat.div_le_iff_le_mul_add_pred h3]
    have : 64 ≤ s * 64 := Nat.le_mul_of_pos_left 64 h3
    omega
  rw [h1]; exact this
theorem Cp.hkc (h : Cp x R I J m Im Jm nn s nc nv ce) : ∀ k, k < nc → k * s < nn := by
  intro k hk
  have h1 : nc = nch nn s := h.1.1.2.2.2.1
  have h3 : 0 < s := h.1.1.2.1
  rw [h1, nch] at hk
  have h4 : k + 1 ≤ (nn + s - 1) / s := hk
  rw [Nat.le_div_iff_mul_le h3, Nat.add_mul, Nat.one_mul] at h4
  omega
theorem Cp.mkpar (h : Cp x R I J m Im Jm nn s nc nv ce) : ∀ i, 0 < i → i < nv → ∃ p, p < i ∧ Im (m + 4) i = nI p := fun i h0 hi => (h.2.2.1 i hi).2.2 h0
theorem Cp.ckpar (h : Cp x R I J m Im Jm nn s nc nv ce) : ∀ i, 0 < i → i < nv → ∃ p, p < i ∧ I (R (x + 1) i) 1 = nI p := fun i h0 hi => by rw [h.par hi]; exact h.mkpar i h0 hi
end
