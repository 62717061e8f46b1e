/-! The class: versions are made -/
theorem CW.keep {x : Nat} {K N K1 N1 : Nat → Nat} {R R1 : Nat → Nat → Nat} (cw : CW x K N R) (kp : ∀ q, K q ≠ 0 → K1 q = K q ∧ N1 q = N q ∧ R1 q = R q) : CW x K1 N1 R1 := by
  have uk : ∀ u, UW u K N R → UW u K1 N1 R1 := by
    intro u w
    have h0 := kp u (by rw [w.k]; omega)
    have h1 := kp (u + 1) (by rw [w.k1]; omega)
    have h2 := kp (u + 2) (by rw [w.k2]; omega)
    unfold UW
    rw [h0.1, h0.2.2, h1.1, h1.2.1, h2.1, h2.2.1]
    exact w
  have vk : ∀ u, VW u K N R → VW u K1 N1 R1 := by
    intro u w
    have h0 := kp u (by rw [w.k]; omega)
    have h1 := kp (u + 1) (by rw [w.k4]; omega)
    have h2 := kp (u + 2) (by rw [w.k5]; omega)
    have h3 := kp (u + 3) (by rw [w.k6]; omega)
    unfold VW
    rw [h0.1, h0.2.2, h1.1, h1.2.1, h2.1, h2.2.1, h3.1, h3.2.1]
    exact w
  have h0 := kp x (by rw [cw.k]; omega)
  have h1 := kp (x + 1) (by rw [cw.k0]; omega)
  refine ⟨by rw [h0.1]; exact cw.k, ⟨by rw [h0.2.2]; exact cw.r0, by rw [h1.1]; exact cw.k0, by rw [h1.2.1]; exact cw.n0⟩, by rw [h0.2.2]; exact cw.r1, by rw [h0.2.2]; exact cw.r2, uk _ cw.wu, uk _ cw.wc, fun i hi => ?_, fun i j hi hj => ?_⟩
  · rw [h1.2.2]
    by_cases z : R (x + 1) i = 0
    · exact Or.inl z
    · exact Or.inr ⟨cw.wg hi z, vk _ (cw.wv hi z)⟩
  · rw [h1.2.2]
    exact cw.wa hi hj
theorem tk_eq {I2 : Nat → Nat → Int32} {x r nv : Nat} (hxr : x ≠ r) (h8 : I2 x 8 = nI nv) : va_up (va_up (va_up (va_up I2 r (va_up (I2 r) 0 (I2 x 8))) r (va_up (va_up I2 r (va_up (I2 r) 0 (I2 x 8)) r) 2 (va_up I2 r (va_up (I2 r) 0 (I2 x 8)) x 12))) r (va_up (va_up (va_up I2 r (va_up (I2 r) 0 (I2 x 8))) r (va_up (va_up I2 r (va_up (I2 r) 0 (I2 x 8)) r) 2 (va_up I2 r (va_up (I2 r) 0 (I2 x 8)) x 12)) r) 3 0)) x (va_up (va_up (va_up (va_up I2 r (va_up (I2 r) 0 (I2 x 8))) r (va_up (va_up I2 r (va_up (I2 r) 0 (I2 x 8)) r) 2 (va_up I2 r (va_up (I2 r) 0 (I2 x 8)) x 12))) r (va_up (va_up (va_up I2 r (va_up (I2 r) 0 (I2 x 8))) r (va_up (va_up I2 r (va_up (I2 r) 0 (I2 x 8)) r) 2 (va_up I2 r (va_up (I2 r) 0 (I2 x 8)) x 12)) r) 3 0) x) 8 (va_up (va_up (va_up I2 r (va_up (I2 r) 0 (I2 x 8))) r (va_up (va_up I2 r (va_up (I2 r) 0 (I2 x 8)) r) 2 (va_up I2 r (va_up (I2 r) 0 (I2 x 8)) x 12))) r (va_up (va_up (va_up I2 r (va_up (I2 r) 0 (I2 x 8))) r (va_up (va_up I2 r (va_up (I2 r) 0 (I2 x 8)) r) 2 (va_up I2 r (va_up (I2 r) 0 (I2 x 8)) x 12)) r) 3 0) x 8 + 1)) = tkI I2 x r nv := by
  simp only [tkI, va_up_self, va_up_up, va_up_ne _ _ hxr, h8, nI_1]
set_option maxHeartbeats 4000000 in
theorem c_X2_takeRoom (l : Launch) (D : va_G) {K N : Nat → Nat} {R : Nat → Nat → Nat} {I : Nat → Nat → Int32} {J : Nat → Nat → Int64} {sz : Nat} {x : Nat} (cw : CW x K N R) {nv : Nat} (h8 : I x 8 = nI nv) (hnv : nv < 60) : XM l D yX2_takeRoom cX2_takeRoom 2 (some (.object "VersionChunks$Version")) 2 4 263 [.ref x] K N R I J sz (fun v K' N' R' I' J' sz' => ∃ (r : Nat) (I2 : Nat → Nat → Int32), v = some (.ref r) ∧ TR x nv r K N R I J sz K' N' R' I2 J' sz' ∧ I' = tkI I2 x r nv) := by
  refine XM.of (own := RX2) (nm := "takeRoom") (by decide +kernel) rfl rfl (by simp [xla, Value.category]) [.ref x, .null] rfl (by rintro v K N R I J sz ⟨r, I2, h, -⟩; exact ⟨r, h⟩) ?_
  refine x_dom fun hdom => ?_
  have tail : ∀ (r : Nat) (K2 N2 : Nat → Nat) (R2 : Nat → Nat → Nat) (I2 : Nat → Nat → Int32) (J2 : Nat → Nat → Int64) (sz2 kc ks : Nat), TR x nv r K N R I J sz K2 N2 R2 I2 J2 sz2 → XW l D (fun _ => True) RX2 "takeRoom" cX2_takeRoom 2 2 4 263 K sz (fun v K' N' R' I' J' sz' => ∃ (r : Nat) (I2 : Nat → Nat → Int32), v = some (.ref r) ∧ TR x nv r K N R I J sz K' N' R' I2 J' sz' ∧ I' = tkI I2 x r nv) 43 [.ref x, .ref r] [] K2 N2 R2 (I2) (J2) sz2 kc ks := by
    intro r K2 N2 R2 I2 J2 sz2 kc ks tr
    have cw2 := tr.1
    have hw2 := tr.2.1
    have hnr : R2 (x + 1) nv = r := by rw [tr.2.2.2.1, va_up_self]
    have hxr : x ≠ r := by have := cw2.wg (show nv < 60 by omega) (by rw [hnr]; exact tr.2.2.1); omega
    have h8' : I2 x 8 = nI nv := by rw [(tr.2.2.2.2.2.1 x (by rw [cw.k]; omega)).1]; exact h8
    refine x_aload_n dX2_takeRoom_43 rfl ?_
    refine x_aload_n dX2_takeRoom_44 rfl ?_
    refine x_geti dX2_takeRoom_45 fl_X2_45 cw2.k rfl ?_
    refine x_puti dX2_takeRoom_48 fl_X2_102 hw2.k rfl (Or.inl rfl) ?_
    refine x_aload_n dX2_takeRoom_51 rfl ?_
    refine x_aload_n dX2_takeRoom_52 rfl ?_
    refine x_geti dX2_takeRoom_53 fl_X2_60 cw2.k rfl ?_
    refine x_puti dX2_takeRoom_56 fl_X2_191 hw2.k rfl (Or.inl rfl) ?_
    refine x_aload_n dX2_takeRoom_59 rfl ?_
    refine x_iconst (v := (0)) dX2_takeRoom_60 (by decide +kernel) ?_
    refine x_puti dX2_takeRoom_61 fl_X2_175 hw2.k rfl (Or.inr ⟨rfl, by decide⟩) ?_
    refine x_aload_n dX2_takeRoom_64 rfl ?_
    refine x_dup dX2_takeRoom_65 rfl ?_
    refine x_geti dX2_takeRoom_66 fl_X2_45 cw2.k rfl ?_
    refine x_iconst (v := (1)) dX2_takeRoom_69 (by decide +kernel) ?_
    refine x_iadd dX2_takeRoom_70 ?_
    refine x_puti dX2_takeRoom_71 fl_X2_45 cw2.k rfl (Or.inl rfl) ?_
    refine x_aload_n dX2_takeRoom_74 rfl ?_
    exact x_za dX2_takeRoom_75 ⟨r, I2, rfl, tr, tk_eq hxr h8'⟩
  refine x_aload_n dX2_takeRoom_0 rfl ?_
  refine x_geti dX2_takeRoom_1 fl_X2_45 cw.k rfl ?_
  refine x_bipush (v := (nI 60)) dX2_takeRoom_4 (by decide +kernel) ?_
  refine x_icmp_lt 11 dX2_takeRoom_6 (by decide) (fun c6 => ?_) (fun c6 => ?_)
  · refine x_aload_n dX2_takeRoom_11 rfl ?_
    refine x_getq dX2_takeRoom_12 fl_X2_11 cw.k cw.r0 rfl ?_
    refine x_aload_n dX2_takeRoom_15 rfl ?_
    refine x_geti dX2_takeRoom_16 fl_X2_45 cw.k rfl ?_
    refine x_aald (nv) dX2_takeRoom_19 cw.k0 cw.n0 h8 (by omega) (by decide) ?_
    refine x_astore_n dX2_takeRoom_20 (by decide) rfl ?_
    refine x_aload_n dX2_takeRoom_21 rfl ?_
    refine x_ifnonnull 43 dX2_takeRoom_22 (by decide) (fun c22 => ?_) (fun c22 => ?_)
    · have tr := TR.old (I := I) (J := J) (sz := sz) cw hnv c22
      exact tail _ _ _ _ _ _ _ _ _ tr
    · refine x_new dX2_takeRoom_25 nw_X2_9 ?_
      refine x_dup dX2_takeRoom_28 rfl ?_
      refine x_cI (c_X1_init l D (by simp [va_up]) (by omega)) dX2_takeRoom_29 lk_X2_194 im_X1_init rfl cd_X1_init (by omega) rfl (by decide) rfl (by first | decide | simp [Value.category]) ?_
      rintro v K1 N1 R1 I1 J1 sz1 ⟨rfl, hw, kp, g1, g2, g3, rfl⟩ -
      have kq : ∀ q, q < sz + 1 → K1 q = K q ∧ N1 q = N q ∧ R1 q = R q ∧ I1 q = I q ∧ J1 q = J q := fun q hq => by
        have := kp q hq
        simp only [va_up_ne _ _ (show q ≠ sz + 1 by omega)] at this
        exact this
      have hx : x + 7 ≤ sz := hdom _ (by rw [show x + 7 = x + 5 + 2 by omega, cw.wc.k2]; omega)
      have cq : CW x K1 N1 R1 := cw.keep (fun q hq => by
        have := kq q (by have := hdom q hq; omega)
        exact ⟨this.1, this.2.1, this.2.2.1⟩)
      refine x_astore_n dX2_takeRoom_32 (by decide) rfl ?_
      refine x_aload_n dX2_takeRoom_33 rfl ?_
      refine x_getq dX2_takeRoom_34 fl_X2_11 cq.k cq.r0 rfl ?_
      refine x_aload_n dX2_takeRoom_37 rfl ?_
      refine x_geti dX2_takeRoom_38 fl_X2_45 cq.k rfl ?_
      refine x_aload_n dX2_takeRoom_41 rfl ?_
      refine x_aast (nv) dX2_takeRoom_42 cq.k0 cq.n0 (by rw [(kq x (by omega)).2.2.2.1]; exact h8) (by omega) (by decide) hw.k ?_
      have tr := TR.new cw hnv hx hdom c22 hw kq g2 g3
      exact tail _ _ _ _ _ _ _ _ _ tr
  · exact absurd (by rw [h8]; exact nI_lt (by omega) (by omega)) c6
set_option maxHeartbeats 4000000 in
theorem c_X2_takeRoomF (l : Launch) (D : va_G) {K N : Nat → Nat} {R : Nat → Nat → Nat} {I : Nat → Nat → Int32} {J : Nat → Nat → Int64} {sz : Nat} {x : Nat} (cw : CW x K N R) (h8 : I x 8 = nI 60) : XM l D yX2_takeRoom cX2_takeRoom 2 (some (.object "VersionChunks$Version")) 0 0 0 [.ref x] K N R I J sz (Zx (some (.ref 0)) K N R I J sz) := by
  refine XM.of (own := RX2) (nm := "takeRoom") (by decide +kernel) rfl rfl (by simp [xla, Value.category]) [.ref x, .null] rfl (Zx.rt ⟨_, rfl⟩) ?_
  refine x_aload_n dX2_takeRoom_0 rfl ?_
  refine x_geti dX2_takeRoom_1 fl_X2_45 cw.k rfl ?_
  refine x_bipush (v := (nI 60)) dX2_takeRoom_4 (by decide +kernel) ?_
  refine x_icmp_lt 11 dX2_takeRoom_6 (by decide) (fun c6 => ?_) (fun c6 => ?_)
  · rw [h8] at c6; exact absurd c6 (by decide)
  · refine x_null dX2_takeRoom_9 ?_
    exact x_ra dX2_takeRoom_10 rfl
/-- a new version stands: its rows are A, Cc, Dd -/
def NV (x nv r : Nat) (A Cc : Nat → Int64) (Dd : Nat → Int32) (par ce : Int32) (K N : Nat → Nat) (R : Nat → Nat → Nat) (I : Nat → Nat → Int32) (J : Nat → Nat → Int64) (sz : Nat) (K2 N2 : Nat → Nat) (R2 : Nat → Nat → Nat) (I2 : Nat → Nat → Int32) (J2 : Nat → Nat → Int64) (sz2 : Nat) : Prop :=
  CW x K2 N2 R2 ∧ r ≠ 0 ∧ R2 (x + 1) = va_up (R (x + 1)) nv r ∧ R2 x = R x ∧ I2 x = va_up (va_up (I x) 8 (nI (nv + 1))) 10 ce ∧ (∀ q, K q ≠ 0 → q ≠ x → (q < r ∨ r + 4 ≤ q) → I2 q = I q ∧ J2 q = J q) ∧
  (I2 r 0 = nI nv ∧ I2 r 1 = par ∧ I2 r 2 = I x 12 ∧ I2 r 3 = 0) ∧ (∀ n, n < 64 → J2 (r + 1) n = A n) ∧ (∀ n, n < 128 → J2 (r + 2) n = Cc n) ∧ (∀ n, n < 64 → I2 (r + 3) n = Dd n) ∧ sz ≤ sz2 ∧ sz2 ≤ sz + 4 ∧ nv < 60
section
variable {x nv r : Nat} {A Cc : Nat → Int64} {Dd : Nat → Int32} {par ce : Int32} {K N : Nat → Nat} {R : Nat → Nat → Nat} {I : Nat → Nat → Int32} {J : Nat → Nat → Int64} {sz : Nat} {K2 N2 : Nat → Nat} {R2 : Nat → Nat → Nat} {I2 : Nat → Nat → Int32} {J2 : Nat → Nat → Int64} {sz2 : Nat}
theorem NV.cw (h : NV x nv r A Cc Dd par ce K N R I J sz K2 N2 R2 I2 J2 sz2) : CW x K2 N2 R2 := h.1
theorem NV.at (h : NV x nv r A Cc Dd par ce K N R I J sz K2 N2 R2 I2 J2 sz2) : R2 (x + 1) nv = r := by rw [h.2.2.1, va_up_self]
theorem NV.vw (h : NV x nv r A Cc Dd par ce K N R I J sz K2 N2 R2 I2 J2 sz2) : VW r K2 N2 R2 := by
  have := h.1.wv h.2.2.2.2.2.2.2.2.2.2.2.2 (by rw [h.at]; exact h.2.1)
  rwa [h.at] at this
theorem NV.ge (h : NV x nv r A Cc Dd par ce K N R I J sz K2 N2 R2 I2 J2 sz2) : x + 8 ≤ r := by
  have := h.1.wg h.2.2.2.2.2.2.2.2.2.2.2.2 (by rw [h.at]; exact h.2.1)
  rwa [h.at] at this
theorem NV.row (h : NV x nv r A Cc Dd par ce K N R I J sz K2 N2 R2 I2 J2 sz2) {i : Nat} (hi : i ≠ nv) : R2 (x + 1) i = R (x + 1) i := by rw [h.2.2.1, va_up_ne _ _ hi]
theorem NV.apart (h : NV x nv r A Cc Dd par ce K N R I J sz K2 N2 R2 I2 J2 sz2) {i : Nat} (hi : i ≠ nv) (h6 : i < 60) (h0 : R (x + 1) i ≠ 0) : R (x + 1) i + 4 ≤ r ∨ r + 4 ≤ R (x + 1) i := by
  have := h.1.wa h6 h.2.2.2.2.2.2.2.2.2.2.2.2 hi (by rw [h.row hi]; exact h0) (by rw [h.at]; exact h.2.1)
  rwa [h.row hi, h.at] at this
theorem NV.vo (h : NV x nv r A Cc Dd par ce K N R I J sz K2 N2 R2 I2 J2 sz2) {i : Nat} (hi : i ≠ nv) (h6 : i < 60) (h0 : R (x + 1) i ≠ 0) : VW (R (x + 1) i) K2 N2 R2 := by
  have := h.1.wv h6 (by rw [h.row hi]; exact h0)
  rwa [h.row hi] at this
theorem NV.old (h : NV x nv r A Cc Dd par ce K N R I J sz K2 N2 R2 I2 J2 sz2) (cw : CW x K N R) {i : Nat} (hi : i ≠ nv) (h6 : i < 60) (h0 : R (x + 1) i ≠ 0) : I2 (R (x + 1) i) = I (R (x + 1) i) ∧ J2 (R (x + 1) i + 1) = J (R (x + 1) i + 1) ∧ J2 (R (x + 1) i + 2) = J (R (x + 1) i + 2) ∧ I2 (R (x + 1) i + 3) = I (R (x + 1) i + 3) := by
  have w := cw.wv h6 h0
  have g := cw.wg h6 h0
  have a := h.apart hi h6 h0
  have kp := h.2.2.2.2.2.1
  exact ⟨(kp _ (by rw [w.k]; omega) (by omega) (by omega)).1, (kp _ (by rw [w.k4]; omega) (by omega) (by omega)).2, (kp _ (by rw [w.k5]; omega) (by omega) (by omega)).2, (kp _ (by rw [w.k6]; omega) (by omega) (by omega)).1⟩
theorem NV.setA {A' F : Nat → Int64} (h : NV x nv r A Cc Dd par ce K N R I J sz K2 N2 R2 I2 J2 sz2) (hF : ∀ n, n < 64 → F n = A' n) : NV x nv r A' Cc Dd par ce K N R I J sz K2 N2 R2 I2 (va_up J2 (r + 1) F) sz2 := by
  have g := h.ge
  obtain ⟨a1, a2, a3, a4, a5, a6, a7, a8, a9, a10, a11⟩ := h
  refine ⟨a1, a2, a3, a4, a5, fun q k1 k2 k3 => ?_, a7, fun n hn => ?_, fun n hn => ?_, a10, a11⟩
  · rw [va_up_ne _ _ (show q ≠ r + 1 by omega)]; exact a6 q k1 k2 k3
  · rw [va_up_self]; exact hF n hn
  · rw [va_up_ne _ _ (show r + 2 ≠ r + 1 by omega)]; exact a9 n hn
theorem NV.setC {C' F : Nat → Int64} (h : NV x nv r A Cc Dd par ce K N R I J sz K2 N2 R2 I2 J2 sz2) (hF : ∀ n, n < 128 → F n = C' n) : NV x nv r A C' Dd par ce K N R I J sz K2 N2 R2 I2 (va_up J2 (r + 2) F) sz2 := by
  have g := h.ge
  obtain ⟨a1, a2, a3, a4, a5, a6, a7, a8, a9, a10, a11⟩ := h
  refine ⟨a1, a2, a3, a4, a5, fun q k1 k2 k3 => ?_, a7, fun n hn => ?_, fun n hn => ?_, a10, a11⟩
  · rw [va_up_ne _ _ (show q ≠ r + 2 by omega)]; exact a6 q k1 k2 k3
  · rw [va_up_ne _ _ (show r + 1 ≠ r + 2 by omega)]; exact a8 n hn
  · rw [va_up_self]; exact hF n hn
theorem NV.setD {D' F : Nat → Int32} (h : NV x nv r A Cc Dd par ce K N R I J sz K2 N2 R2 I2 J2 sz2) (hF : ∀ n, n < 64 → F n = D' n) : NV x nv r A Cc D' par ce K N R I J sz K2 N2 R2 (va_up I2 (r + 3) F) J2 sz2 := by
  have g := h.ge
  obtain ⟨a1, a2, a3, a4, a5, a6, a7, a8, a9, a10, a11⟩ := h
  refine ⟨a1, a2, a3, a4, ?_, fun q k1 k2 k3 => ?_, ?_, a8, a9, fun n hn => ?_, a11⟩
  · rw [va_up_ne _ _ (show x ≠ r + 3 by omega)]; exact a5
  · rw [va_up_ne _ _ (show q ≠ r + 3 by omega)]; exact a6 q k1 k2 k3
  · rw [va_up_ne _ _ (show r ≠ r + 3 by omega)]; exact a7
  · rw [va_up_self]; exact hF n hn
theorem NV.setE {ce' : Int32} {F : Nat → Int32} (h : NV x nv r A Cc Dd par ce K N R I J sz K2 N2 R2 I2 J2 sz2) (hF : F = va_up (I2 x) 10 ce') : NV x nv r A Cc Dd par ce' K N R I J sz K2 N2 R2 (va_up I2 x F) J2 sz2 := by
  have g := h.ge
  obtain ⟨a1, a2, a3, a4, a5, a6, a7, a8, a9, a10, a11⟩ := h
  refine ⟨a1, a2, a3, a4, ?_, fun q k1 k2 k3 => ?_, ?_, a8, a9, fun n hn => ?_, a11⟩
  · rw [va_up_self, hF, a5, va_up_up]
  · rw [va_up_ne _ _ k2]; exact a6 q k1 k2 k3
  · rw [va_up_ne _ _ (show r ≠ x by omega)]; exact a7
  · rw [va_up_ne _ _ (show r + 3 ≠ x by omega)]; exact a10 n hn
theorem NV.setP {par' : Int32} {F : Nat → Int32} (h : NV x nv r A Cc Dd par ce K N R I J sz K2 N2 R2 I2 J2 sz2) (hF : F = va_up (I2 r) 1 par') : NV x nv r A Cc Dd par' ce K N R I J sz K2 N2 R2 (va_up I2 r F) J2 sz2 := by
  have g := h.ge
  obtain ⟨a1, a2, a3, a4, a5, a6, a7, a8, a9, a10, a11⟩ := h
  refine ⟨a1, a2, a3, a4, ?_, fun q k1 k2 k3 => ?_, ?_, a8, a9, fun n hn => ?_, a11⟩
  · rw [va_up_ne _ _ (show x ≠ r by omega)]; exact a5
  · rw [va_up_ne _ _ (show q ≠ r by omega)]; exact a6 q k1 k2 k3
  · subst hF
    rw [va_up_self]
    exact ⟨a7.1, rfl, a7.2.2⟩
  · rw [va_up_ne _ _ (show r + 3 ≠ r by omega)]; exact a10 n hn
theorem NV.ofTR (h : TR x nv r K N R I J sz K2 N2 R2 I2 J2 sz2) (cw : CW x K N R) (hv : nv < 60) : NV x nv r (J2 (r + 1)) (J2 (r + 2)) (I2 (r + 3)) (I2 r 1) (I x 10) K N R I J sz K2 N2 R2 (tkI I2 x r nv) J2 sz2 := by
  obtain ⟨a1, a2, a3, a4, a5, a6, a7, a8, a9, a10, a11⟩ := h
  have hnr : R2 (x + 1) nv = r := by rw [a4, va_up_self]
  have g := a1.wg hv (by rw [hnr]; exact a3)
  rw [hnr] at g
  have hx := a6 x (by rw [cw.k]; omega)
  refine ⟨a1, a3, a4, a5, ?_, fun q k1 k2 k3 => ?_, ?_, fun _ _ => rfl, fun _ _ => rfl, fun n hn => ?_, a10, a11, hv⟩
  · rw [tkI, va_up_self, hx.1]
    funext j
    by_cases hj : j = 10
    · subst hj; simp [va_up]
    · rw [va_up_ne _ _ hj]
  · rw [tkI, va_up_ne _ _ k2, va_up_ne _ _ (show q ≠ r by omega)]
    exact ⟨(a6 q k1).1, (a6 q k1).2.1⟩
  · rw [tkI, va_up_ne _ _ (show r ≠ x by omega), va_up_self, hx.1]
    simp [va_up]
  · rw [tkI, va_up_ne _ _ (show r + 3 ≠ x by omega), va_up_ne _ _ (show r + 3 ≠ r by omega)]
end
