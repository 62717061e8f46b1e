/-! Both sides: a version is made -/
/-- the reference's rows while version nv is made -/
def MS (m nv ce2 : Nat) (par : Int32) (Dk : Nat → Int32) (Im X : Nat → Nat → Int32) : Prop :=
  (∀ j, j ≠ 5 → X m j = Im m j) ∧ X m 5 = nI ce2 ∧ (∀ v k, v < nv → k < 64 → X (m + 3) (64 * v + k) = Im (m + 3) (64 * v + k)) ∧ (∀ k, k < 64 → X (m + 3) (64 * nv + k) = Dk k) ∧ X (m + 4) = va_up (Im (m + 4)) nv par ∧ X (m + 5) = va_up (Im (m + 5)) nv (Im m 3) ∧ X (m + 6) = va_up (Im (m + 6)) nv 0 ∧ (∀ q, 7 ≤ q → X (m + q) = Im (m + q))
section
variable {x m : Nat} {K N K2 N2 : Nat → Nat} {R R2 : Nat → Nat → Nat} {I I2 Im Im2 X : Nat → Nat → Int32} {J J2 Jm Jm2 : Nat → Nat → Int64} {nn s nc nv ce ce2 r sz sz2 : Nat} {A Cc : Nat → Int64} {Dd Dk : Nat → Int32} {par cev : Int32}
theorem MS.cp {v : Nat} (h5 : Im m 5 = nI ce) (hv : v < nv) : MS m nv ce (nI v) (fun k => Im (m + 3) (64 * v + k)) Im (cpI2 Im m v nv) := by
  have e3 : cpI2 Im m v nv (m + 3) = va_cpy (Im (m + 3)) (Im (m + 3)) (64 * v) (64 * nv) 64 := by simp [cpI2, cpI, va_up]
  refine ⟨fun j _ => by rw [cpI2_m], by rw [cpI2_m]; exact h5, fun w k hw hk => ?_, fun k hk => ?_, by simp [cpI2, cpI, va_up], by simp [cpI2, cpI, va_up], by simp [cpI2, cpI, va_up], fun q hq => cpI2_o (by omega) (by omega) (by omega) (by omega)⟩
  · rw [e3, pk_cpy_out (by omega)]
  · rw [e3, pk_cpy_in (by omega) (by omega), show 64 * v + (64 * nv + k - 64 * nv) = 64 * v + k by omega]
theorem MS.put {k : Nat} {id : Int32} (h : MS m nv ce2 par Dk Im X) (hk : k < 64) : MS m nv ce2 par (va_up Dk k id) Im (va_up X (m + 3) (va_up (X (m + 3)) (64 * nv + k) id)) := by
  obtain ⟨h1, h2, h3, h4, h5, h6, h7, h8⟩ := h
  refine ⟨fun j hj => ?_, ?_, fun v i hv hi => ?_, fun i hi => ?_, ?_, ?_, ?_, fun q hq => ?_⟩
  · rw [va_up_ne _ _ (by omega)]; exact h1 j hj
  · rw [va_up_ne _ _ (by omega)]; exact h2
  · rw [va_up_self, va_up_ne _ _ (by omega)]; exact h3 v i hv hi
  · rw [va_up_self]
    by_cases e : i = k
    · subst e; rw [va_up_self, va_up_self]
    · rw [va_up_ne _ _ (by omega), va_up_ne _ _ e]; exact h4 i hi
  · rw [va_up_ne _ _ (by omega)]; exact h5
  · rw [va_up_ne _ _ (by omega)]; exact h6
  · rw [va_up_ne _ _ (by omega)]; exact h7
  · rw [va_up_ne _ _ (by omega)]; exact h8 q hq
theorem MS.fr {k : Nat} (h : MS m nv ce2 par Dk Im X) (hk : k < 64) : MS m nv (ce2 + 1) par (va_up Dk k (nI ce2)) Im (frI X m nv k) := by
  obtain ⟨h1, h2, h3, h4, h5, h6, h7, h8⟩ := h
  have e3 : frI X m nv k (m + 3) = va_up (X (m + 3)) (64 * nv + k) (X m 5) := by unfold frI; rw [va_up_ne _ _ (by omega), va_up_self]
  refine ⟨fun j hj => ?_, ?_, fun v i hv hi => ?_, fun i hi => ?_, ?_, ?_, ?_, fun q hq => ?_⟩
  · rw [frI_m, va_up_ne _ _ hj]; exact h1 j hj
  · rw [frI_m, va_up_self, h2, nI_1]
  · rw [e3, va_up_ne _ _ (by omega)]; exact h3 v i hv hi
  · rw [e3, h2]
    by_cases e : i = k
    · subst e; rw [va_up_self, va_up_self]
    · rw [va_up_ne _ _ (by omega), va_up_ne _ _ e]; exact h4 i hi
  · rw [frI_o (by omega) (by omega)]; exact h5
  · rw [frI_o (by omega) (by omega)]; exact h6
  · rw [frI_o (by omega) (by omega)]; exact h7
  · rw [frI_o (by omega) (by omega)]; exact h8 q hq
theorem hN_congr2 (n0 : Nat) (h3 : ∀ v k, v < n0 → k < nc → Im2 (m + 3) (64 * v + k) = Im (m + 3) (64 * v + k)) (h6 : ∀ v, v < n0 → Im2 (m + 6) v = Im (m + 6) v) : ∀ v, v ≤ n0 → hN Im2 m nc v = hN Im m nc v := by
  intro v
  induction v with
  | zero => intro _; rfl
  | succ v ih =>
    intro hv
    have : hR Im2 m nc v = hR Im m nc v := by
      unfold hR
      rw [h6 v (by omega), cntP_congr (p := fun k => fsB Im2 m v k) (q := fun k => fsB Im m v k) (fun k hk => ?_)]
      unfold fsB
      rw [anyP_congr (p := fun w => Im2 (m + 6) w == 0 && Im2 (m + 3) (64 * w + k) == Im2 (m + 3) (64 * v + k)) (q := fun w => Im (m + 6) w == 0 && Im (m + 3) (64 * w + k) == Im (m + 3) (64 * v + k)) (fun w hw => by rw [h6 w (by omega), h3 w k (by omega) hk, h3 v k (by omega) hk])]
    simp only [hN, ih (by omega), this]
theorem Cp.new (h : Cp x R I J m Im Jm nn s nc nv ce) (cw : CW x K N R) (hn : NV x nv r A Cc Dd par cev K N R I J sz K2 N2 R2 I2 J2 sz2) (ms : MS m nv ce2 par Dk Im X) (hold : ∀ v n c, v < nv → n < 64 → c < 66 → itm Jm2 m v n c = itm Jm m v n c) (h9 : Jm2 (m + 9) = Jm (m + 9)) (h10 : Jm2 (m + 10) = Jm (m + 10)) (hce : cev = nI ce2) (fr : Nat → Bool) (hce2 : ce2 = ce + cntP fr nc) (h0 : 0 < nv)
    (hit : ∀ n c, n < 64 → c < 66 → itF A Cc n c = itm Jm2 m nv n c) (hz : ∀ n c, n < 64 → nn ≤ c → c < 64 → itm Jm2 m nv n c = 0) (hid : ∀ k, k < nc → Dd k = Dk k)
    (hft : ∀ k, k < nc → fr k = true → ∃ id, ce ≤ id ∧ id < ce2 ∧ Dk k = nI id) (hff : ∀ k, k < nc → fr k = false → ∃ w, w < nv ∧ Im (m + 6) w = 0 ∧ Dk k = Im (m + 3) (64 * w + k)) (hp : ∃ p, p < nv ∧ par = nI p) : Cp x R2 I2 J2 m (mdI X m) Jm2 nn s nc (nv + 1) ce2 := by
  have hnn : nn ≤ 64 := h.1.1.1
  have hncle := h.ncle
  obtain ⟨ms1, ms2, ms3, ms4, ms5, ms6, ms7, ms8⟩ := ms
  have n60 : nv < 60 := hn.2.2.2.2.2.2.2.2.2.2.2.2
  have hge := hn.ge
  have hat := hn.at
  have hI2 : I2 x = va_up (va_up (I x) 8 (nI (nv + 1))) 10 cev := hn.2.2.2.2.1
  have mo : ∀ q, q ≠ 0 → mdI X m (m + q) = X (m + q) := fun q hq => va_up_ne _ _ (by omega)
  have m4 : mdI X m m 4 = nI (nv + 1) := by
    unfold mdI; rw [va_up_self, va_up_self, ms1 4 (by omega), h.1.2.2.1.2.2.1, nI_1]
  have mj : ∀ j, j ≠ 4 → mdI X m m j = X m j := fun j hj => by unfold mdI; rw [va_up_self, va_up_ne _ _ hj]
  have cle : cntP fr nc ≤ nc := cntP_le _ _
  have kp := hn.2.2.2.2.2.1
  have kx : ∀ q, K q ≠ 0 → q ≠ x → q < x + 8 → I2 q = I q ∧ J2 q = J q := fun q a b c => kp q a b (by omega)
  have k2 := kx (x + 2) (by rw [cw.wu.k]; omega) (by omega) (by omega)
  have k3 := kx (x + 3) (by have := cw.wu.k1; simp only [Nat.add_assoc, Nat.reduceAdd] at this; omega) (by omega) (by omega)
  have k4 := kx (x + 4) (by have := cw.wu.k2; simp only [Nat.add_assoc, Nat.reduceAdd] at this; omega) (by omega) (by omega)
  have k5 := kx (x + 5) (by rw [cw.wc.k]; omega) (by omega) (by omega)
  have k6 := kx (x + 6) (by have := cw.wc.k1; simp only [Nat.add_assoc, Nat.reduceAdd] at this; omega) (by omega) (by omega)
  have k7 := kx (x + 7) (by have := cw.wc.k2; simp only [Nat.add_assoc, Nat.reduceAdd] at this; omega) (by omega) (by omega)
  have old : ∀ v, v < nv → R2 (x + 1) v = R (x + 1) v ∧ I2 (R (x + 1) v) = I (R (x + 1) v) ∧ J2 (R (x + 1) v + 1) = J (R (x + 1) v + 1) ∧ J2 (R (x + 1) v + 2) = J (R (x + 1) v + 2) ∧ I2 (R (x + 1) v + 3) = I (R (x + 1) v + 3) := fun v hv => ⟨hn.row (by omega), hn.old cw (by omega) (by omega) (h.hvv v hv)⟩
  obtain ⟨hA, hV, hW, hZ, gN, gR, hC⟩ := h
  obtain ⟨f0, f1, f2, f3⟩ := hn.2.2.2.2.2.2.1
  have nA := hn.2.2.2.2.2.2.2.1
  have nC := hn.2.2.2.2.2.2.2.2.1
  have nD := hn.2.2.2.2.2.2.2.2.2.1
  have hcb : ce ≤ 64 * nv := hA.1.2.2.2.2.2
  refine ⟨⟨⟨hnn, hA.1.2.1, hA.1.2.2.1, hA.1.2.2.2.1, by omega, by omega⟩, ?_, ?_, ?_⟩, fun v hv => ?_, fun v hv => ?_, ?_, ?_, ?_, ?_⟩
  · rw [hI2, va_up_ne _ _ (show (5 : Nat) ≠ 10 by omega), va_up_ne _ _ (show (5 : Nat) ≠ 8 by omega), va_up_ne _ _ (show (6 : Nat) ≠ 10 by omega), va_up_ne _ _ (show (6 : Nat) ≠ 8 by omega), va_up_ne _ _ (show (7 : Nat) ≠ 10 by omega), va_up_ne _ _ (show (7 : Nat) ≠ 8 by omega), va_up_ne _ _ (show (8 : Nat) ≠ 10 by omega), va_up_self, va_up_self]
    exact ⟨hA.2.1.1, hA.2.1.2.1, hA.2.1.2.2.1, rfl, hce⟩
  · rw [mj 0 (by omega), mj 2 (by omega), m4, mj 5 (by omega), mj 3 (by omega), ms1 0 (by omega), ms1 2 (by omega), ms1 3 (by omega), ms2, hI2, va_up_ne _ _ (show (12 : Nat) ≠ 10 by omega), va_up_ne _ _ (show (12 : Nat) ≠ 8 by omega)]
    exact ⟨hA.2.2.1.1, hA.2.2.1.2.1, rfl, rfl, hA.2.2.1.2.2.2.2⟩
  · rw [mj 1 (by omega), ms1 1 (by omega)]
    rcases hA.2.2.2 with z | z
    · omega
    · right; exact ⟨by omega, z.2⟩
  · rw [mo 3 (by omega), mo 4 (by omega), mo 5 (by omega), mo 6 (by omega), ms5, ms6, ms7]
    by_cases e : v = nv
    · subst e
      rw [hat, va_up_self, va_up_self, va_up_self, f0, f1, f2, f3]
      refine ⟨hn.2.1, ⟨rfl, rfl, hA.2.2.1.2.2.2.2.symm, rfl⟩, fun k hk => ?_, fun n c g1 g2 => ?_⟩
      · rw [nD k (by omega), ms4 k (by omega), hid k hk]
      · rw [← hit n c g1 g2]
        unfold itF
        by_cases z : c < 64
        · rw [if_pos z, if_pos z, nA n g1]
        · rw [if_neg z, if_neg z, nC _ (by omega)]
    · have hv1 : v < nv := by omega
      obtain ⟨o1, o2, o3, o4, o5⟩ := old v hv1
      obtain ⟨z0, z1, z2, z3⟩ := hV v hv1
      rw [o1, o2, o3, o4, o5, va_up_ne _ _ e, va_up_ne _ _ e, va_up_ne _ _ e]
      refine ⟨z0, z1, fun k hk => ?_, fun n c g1 g2 => ?_⟩
      · rw [ms3 v k hv1 (by omega)]; exact z2 k hk
      · rw [hold v n c hv1 g1 g2]; exact z3 n c g1 g2
  · rw [mo 3 (by omega), mo 4 (by omega), ms5]
    by_cases e : v = nv
    · subst e
      rw [va_up_self]
      refine ⟨hz, fun k hk => ?_, fun _ => hp⟩
      rw [ms4 k (by omega)]
      cases z : fr k
      · obtain ⟨w, w1, w2, w3⟩ := hff k hk z
        obtain ⟨id, i1, i2⟩ := (hW w w1).2.1 k hk
        exact ⟨id, by omega, by rw [w3]; exact i2⟩
      · obtain ⟨id, i1, i2, i3⟩ := hft k hk z
        exact ⟨id, i2, i3⟩
    · have hv1 : v < nv := by omega
      obtain ⟨z1, z2, z3⟩ := hW v hv1
      rw [va_up_ne _ _ e]
      refine ⟨fun n c a b d => ?_, fun k hk => ?_, z3⟩
      · rw [hold v n c hv1 a (by omega)]; exact z1 n c a b d
      · obtain ⟨id, i1, i2⟩ := z2 k hk
        exact ⟨id, by omega, by rw [ms3 v k hv1 (by omega)]; exact i2⟩
  · intro _
    obtain ⟨o1, o2, o3, o4, o5⟩ := old 0 h0
    rw [o1, o3, o4]
    exact hZ (hV 0 h0).1
  · obtain ⟨ng, nh, n1, n2, n3, n4⟩ := gN
    refine ⟨ng, nh, ?_, ?_, ?_, ?_⟩
    · rw [hI2, va_up_ne _ _ (by omega), va_up_ne _ _ (by omega)]; exact n1
    · unfold lfN at n2 ⊢
      rw [mo 6 (by omega), ms7]
      simp only [cntP]
      rw [cntP_congr (p := fun v => va_up (Im (m + 6)) nv 0 v == 0) (q := fun v => Im (m + 6) v == 0) (fun v hv => by rw [va_up_ne _ _ (by omega)])]
      simp only [va_up_self]
      simp
      omega
    · rw [hI2, va_up_ne _ _ (by omega), va_up_ne _ _ (by omega)]; exact n3
    · have q3 : ∀ v k, v < nv → k < nc → mdI X m (m + 3) (64 * v + k) = Im (m + 3) (64 * v + k) := fun v k hv hk => by rw [mo 3 (by omega)]; exact ms3 v k hv (by omega)
      have q6 : ∀ v, v < nv → mdI X m (m + 6) v = Im (m + 6) v := fun v hv => by rw [mo 6 (by omega), ms7, va_up_ne _ _ (by omega)]
      have e1 := hN_congr2 (Im2 := mdI X m) (Im := Im) (nc := nc) nv q3 q6 nv (Nat.le_refl _)
      have e2 : hR (mdI X m) m nc nv = cntP fr nc := by
        unfold hR
        rw [mo 6 (by omega), ms7, va_up_self, if_pos rfl]
        refine cntP_congr fun k hk => ?_
        unfold fsB
        have q4 : mdI X m (m + 3) (64 * nv + k) = Dk k := by rw [mo 3 (by omega)]; exact ms4 k (by omega)
        rw [q4]
        cases z : fr k
        · obtain ⟨w, w1, w2, w3⟩ := hff k hk z
          rw [anyP_t (i := w) w1 (by rw [q6 w w1, q3 w k w1 hk, w2, w3]; simp)]
          rfl
        · obtain ⟨id, i1, i2, i3⟩ := hft k hk z
          rw [anyP_f (fun w hw => ?_)]
          · rfl
          · obtain ⟨jd, j1, j2⟩ := (hW w hw).2.1 k hk
            rw [q3 w k hw hk, j2, i3]
            have : ¬ nI jd = nI id := fun y => by have := (nI_eq (by omega) (by omega)).mp y; omega
            simp [this]
      simp only [hN]
      rw [e1, e2]
      omega
  · exact gR.ext hnn (by omega) (by rw [hn.2.2.2.1]) (by rw [hn.2.2.2.1]) (by rw [k2.1]) k3.2 k4.2 (fun v hv => ⟨(old v hv).1, (old v hv).2.2.1, (old v hv).2.2.2.1⟩) (by rw [mj 12 (by omega), ms1 12 (by omega)]) (by rw [mj 13 (by omega), ms1 13 (by omega)]) (by rw [mo 7 (by omega)]; exact ms8 7 (by omega)) (by rw [mo 8 (by omega)]; exact ms8 8 (by omega)) h9 h10 hold
  · exact hC.ext k6.2 k7.2 (by rw [k5.1]) (by rw [mj 18 (by omega), ms1 18 (by omega)]) (by rw [mo 11 (by omega)]; exact ms8 11 (by omega)) (by rw [mo 12 (by omega)]; exact ms8 12 (by omega))
end
