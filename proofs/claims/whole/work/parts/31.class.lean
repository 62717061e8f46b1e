/-! The class: new cells -/
section
variable {l : Launch} {D : va_G} {X : State → Prop} {own nm : String} {cc : ByteArray} {nL d mc ms : Nat} {K0 : Nat → Nat} {sz0 : Nat} {Z : ZT} {pc : Nat} {L st : List Value} {K N : Nat → Nat} {R : Nat → Nat → Nat} {I : Nat → Nat → Int32} {J : Nat → Nat → Int64} {sz kc ks : Nat}
theorem x_dom (kk : (∀ q, K q ≠ 0 → q ≤ sz) → XW l D X own nm cc nL d mc ms K0 sz0 Z pc L st K N R I J sz kc ks) : XW l D X own nm cc nL d mc ms K0 sz0 Z pc L st K N R I J sz kc ks := by
  intro p e Rm s m args below meth c H locs cells slots Q ls hC hH hl hE
  refine kk (fun q hq => ?_) p e Rm s m args below meth c H locs cells slots Q ls hC hH hl hE
  cases q with
  | zero => exact Nat.zero_le _
  | succ a =>
    have h1 := (hH.1.2 a).1 hq
    have h2 := hH.2.1
    omega
end
def cyJ (J : Nat → Nat → Int64) (r o : Nat) : Nat → Nat → Int64 := va_up (va_up J (r + 1) (xcp 64 (J (o + 1)) (J (r + 1)))) (r + 2) (xcp 128 (J (o + 2)) (J (r + 2)))
set_option maxHeartbeats 4000000 in
theorem c_X1_copyItems (l : Launch) (D : va_G) {K N : Nat → Nat} {R : Nat → Nat → Nat} {I : Nat → Nat → Int32} {J : Nat → Nat → Int64} {sz : Nat} {r o : Nat} (vr : VW r K N R) (vo : VW o K N R) (hap : o + 4 ≤ r ∨ r + 4 ≤ o) : XM l D yX1_copyItems cX1_copyItems 2 none 1 0 0 [.ref r, .ref o] K N R I J sz (Zx none K N R (va_up I (r + 3) (xcp 64 (I (o + 3)) (I (r + 3)))) (cyJ J r o) sz) := by
  refine XM.of (own := RX1) (nm := "copyItems") (by decide +kernel) rfl rfl (by simp [xla, Value.category]) [.ref r, .ref o] rfl (Zx.rt rfl) ?_
  refine x_aload_n dX1_copyItems_0 rfl ?_
  refine x_getq dX1_copyItems_1 fl_X1_9 vo.k vo.r4 rfl ?_
  refine x_iconst (v := (0)) dX1_copyItems_4 (by decide +kernel) ?_
  refine x_aload_n dX1_copyItems_5 rfl ?_
  refine x_getq dX1_copyItems_6 fl_X1_9 vr.k vr.r4 rfl ?_
  refine x_iconst (v := (0)) dX1_copyItems_9 (by decide +kernel) ?_
  refine x_bipush (v := (nI 64)) dX1_copyItems_10 (by decide +kernel) ?_
  refine x_copyl (n := 64) dX1_copyItems_12 sl_X1_26 w_cpnat w_cpst w_sysini vo.k4 vr.k4 vo.n4 vr.n4 rfl (by rfl) (by rfl) (by decide) (by decide) (by decide) (by decide) rfl ?_
  refine x_aload_n dX1_copyItems_15 rfl ?_
  refine x_getq dX1_copyItems_16 fl_X1_15 vo.k vo.r5 rfl ?_
  refine x_iconst (v := (0)) dX1_copyItems_19 (by decide +kernel) ?_
  refine x_aload_n dX1_copyItems_20 rfl ?_
  refine x_getq dX1_copyItems_21 fl_X1_15 vr.k vr.r5 rfl ?_
  refine x_iconst (v := (0)) dX1_copyItems_24 (by decide +kernel) ?_
  refine x_sipush (v := (nI 128)) dX1_copyItems_25 (by decide +kernel) ?_
  refine x_copyl (n := 128) dX1_copyItems_28 sl_X1_26 w_cpnat w_cpst w_sysini vo.k5 vr.k5 vo.n5 vr.n5 rfl (by rfl) (by rfl) (by decide) (by decide) (by decide) (by decide) rfl ?_
  refine x_aload_n dX1_copyItems_31 rfl ?_
  refine x_getq dX1_copyItems_32 fl_X1_18 vo.k vo.r6 rfl ?_
  refine x_iconst (v := (0)) dX1_copyItems_35 (by decide +kernel) ?_
  refine x_aload_n dX1_copyItems_36 rfl ?_
  refine x_getq dX1_copyItems_37 fl_X1_18 vr.k vr.r6 rfl ?_
  refine x_iconst (v := (0)) dX1_copyItems_40 (by decide +kernel) ?_
  refine x_bipush (v := (nI 64)) dX1_copyItems_41 (by decide +kernel) ?_
  refine x_copyi (n := 64) dX1_copyItems_43 sl_X1_26 w_cpnat w_cpst w_sysini vo.k6 vr.k6 vo.n6 vr.n6 rfl (by rfl) (by rfl) (by decide) (by decide) (by decide) (by decide) rfl ?_
  exact x_zn dX1_copyItems_46 ⟨rfl, rfl, rfl, rfl, rfl, by rw [cyJ, va_up_ne _ _ (show o + 2 ≠ r + 1 by omega), va_up_ne _ _ (show r + 2 ≠ r + 1 by omega)], rfl⟩
set_option maxHeartbeats 4000000 in
theorem c_X0_init (l : Launch) (D : va_G) {K N : Nat → Nat} {R : Nat → Nat → Nat} {I : Nat → Nat → Int32} {J : Nat → Nat → Int64} {sz : Nat} (hm : K sz = 1) (h0 : 0 < sz) : XM l D yX0_init cX0_init 1 none 1 2 128 [.ref sz] K N R I J sz (fun v K' N' R' I' J' sz' => v = none ∧ UW sz K' N' R' ∧ (∀ q, q < sz → K' q = K q ∧ N' q = N q ∧ R' q = R q ∧ I' q = I q ∧ J' q = J q) ∧ I' sz = I sz ∧ J' (sz + 1) = (fun _ => 0) ∧ J' (sz + 2) = (fun _ => 0) ∧ sz' = sz + 2) := by
  refine XM.of (own := RX0) (nm := "<init>") (by decide +kernel) rfl rfl (by simp [xla, Value.category]) [.ref sz] rfl (by rintro v K N R I J sz ⟨h, -⟩; exact h) ?_
  refine x_aload_n dX0_init_0 rfl ?_
  refine x_objInit dX0_init_1 ol_X0_3 w_objinst w_objcode (by omega) (by decide) (by decide) ?_
  refine x_aload_n dX0_init_4 rfl ?_
  refine x_bipush (v := (nI 64)) dX0_init_5 (by decide +kernel) ?_
  refine x_newl 64 dX0_init_7 ac_long (by decide) (by decide) ?_
  try simp only [Nat.add_assoc, Nat.reduceAdd]
  refine x_putr dX0_init_9 fl_X0_9 (by simp [va_up, hm]) (Or.inr ⟨rfl, rfl⟩) (Or.inr ⟨_, rfl⟩) ?_
  refine x_aload_n dX0_init_12 rfl ?_
  refine x_bipush (v := (nI 64)) dX0_init_13 (by decide +kernel) ?_
  refine x_newl 64 dX0_init_15 ac_long (by decide) (by decide) ?_
  try simp only [Nat.add_assoc, Nat.reduceAdd]
  refine x_putr dX0_init_17 fl_X0_15 (by simp [va_up, hm]) (Or.inr ⟨rfl, rfl⟩) (Or.inr ⟨_, rfl⟩) ?_
  exact x_zn dX0_init_20 ⟨rfl, ⟨by simp [va_up, hm], ⟨by simp [va_up], by simp [va_up], by simp [va_up]⟩, ⟨by simp [va_up], by simp [va_up], by simp [va_up]⟩⟩, fun q hq => by
        have e0 : q ≠ sz := by omega
        have e1 : q ≠ sz + 1 := by omega
        have e2 : q ≠ sz + 2 := by omega
        have e3 : q ≠ sz + 3 := by omega
        refine ⟨?_, ?_, ?_, ?_, ?_⟩ <;> simp [va_up, e0, e1, e2, e3], by simp [va_up], by simp [va_up], by simp [va_up], rfl⟩
set_option maxHeartbeats 4000000 in
theorem c_X1_init (l : Launch) (D : va_G) {K N : Nat → Nat} {R : Nat → Nat → Nat} {I : Nat → Nat → Int32} {J : Nat → Nat → Int64} {sz : Nat} (hm : K sz = 2) (h0 : 0 < sz) : XM l D yX1_init cX1_init 1 none 1 3 256 [.ref sz] K N R I J sz (fun v K' N' R' I' J' sz' => v = none ∧ VW sz K' N' R' ∧ (∀ q, q < sz → K' q = K q ∧ N' q = N q ∧ R' q = R q ∧ I' q = I q ∧ J' q = J q) ∧ I' sz = I sz ∧ J' (sz + 1) = (fun _ => 0) ∧ J' (sz + 2) = (fun _ => 0) ∧ sz' = sz + 3) := by
  refine XM.of (own := RX1) (nm := "<init>") (by decide +kernel) rfl rfl (by simp [xla, Value.category]) [.ref sz] rfl (by rintro v K N R I J sz ⟨h, -⟩; exact h) ?_
  refine x_aload_n dX1_init_0 rfl ?_
  refine x_objInit dX1_init_1 ol_X1_3 w_objinst w_objcode (by omega) (by decide) (by decide) ?_
  refine x_aload_n dX1_init_4 rfl ?_
  refine x_bipush (v := (nI 64)) dX1_init_5 (by decide +kernel) ?_
  refine x_newl 64 dX1_init_7 ac_long (by decide) (by decide) ?_
  try simp only [Nat.add_assoc, Nat.reduceAdd]
  refine x_putr dX1_init_9 fl_X1_9 (by simp [va_up, hm]) (Or.inr ⟨rfl, rfl⟩) (Or.inr ⟨_, rfl⟩) ?_
  refine x_aload_n dX1_init_12 rfl ?_
  refine x_sipush (v := (nI 128)) dX1_init_13 (by decide +kernel) ?_
  refine x_newl 128 dX1_init_16 ac_long (by decide) (by decide) ?_
  try simp only [Nat.add_assoc, Nat.reduceAdd]
  refine x_putr dX1_init_18 fl_X1_15 (by simp [va_up, hm]) (Or.inr ⟨rfl, rfl⟩) (Or.inr ⟨_, rfl⟩) ?_
  refine x_aload_n dX1_init_21 rfl ?_
  refine x_bipush (v := (nI 64)) dX1_init_22 (by decide +kernel) ?_
  refine x_newi 64 dX1_init_24 ac_int (by decide) (by decide) ?_
  try simp only [Nat.add_assoc, Nat.reduceAdd]
  refine x_putr dX1_init_26 fl_X1_18 (by simp [va_up, hm]) (Or.inr ⟨rfl, rfl⟩) (Or.inr ⟨_, rfl⟩) ?_
  exact x_zn dX1_init_29 ⟨rfl, ⟨by simp [va_up, hm], ⟨by simp [va_up], by simp [va_up], by simp [va_up]⟩, ⟨by simp [va_up], by simp [va_up], by simp [va_up]⟩, ⟨by simp [va_up], by simp [va_up], by simp [va_up]⟩⟩, fun q hq => by
        have e0 : q ≠ sz := by omega
        have e1 : q ≠ sz + 1 := by omega
        have e2 : q ≠ sz + 2 := by omega
        have e3 : q ≠ sz + 3 := by omega
        refine ⟨?_, ?_, ?_, ?_, ?_⟩ <;> simp [va_up, e0, e1, e2, e3], by simp [va_up], by simp [va_up], by simp [va_up], rfl⟩
set_option maxHeartbeats 4000000 in
theorem c_X2_init (l : Launch) (D : va_G) {K N : Nat → Nat} {R : Nat → Nat → Nat} {I : Nat → Nat → Int32} {J : Nat → Nat → Int64} {sz : Nat} (hm : K sz = 3) (hI : I sz = fun _ => 0) (hR : R sz = fun _ => 0) (h0 : 0 < sz) : XM l D yX2_init cX2_init 1 none 2 7 322 [.ref sz] K N R I J sz (fun v K' N' R' I' J' sz' => v = none ∧ CW sz K' N' R' ∧ R' (sz + 1) = (fun _ => 0) ∧ R' sz 3 = 0 ∧ R' sz 4 = 0 ∧ I' sz = va_up (fun _ => 0) 6 1 ∧ I' (sz + 2) = (fun _ => 0) ∧ I' (sz + 5) = (fun _ => 0) ∧ J' (sz + 3) = (fun _ => 0) ∧ J' (sz + 4) = (fun _ => 0) ∧ J' (sz + 6) = (fun _ => 0) ∧ J' (sz + 7) = (fun _ => 0) ∧ sz' = sz + 7) := by
  refine XM.of (own := RX2) (nm := "<init>") (by decide +kernel) rfl rfl (by simp [xla, Value.category]) [.ref sz] rfl (by rintro v K N R I J sz ⟨h, -⟩; exact h) ?_
  refine x_aload_n dX2_init_0 rfl ?_
  refine x_objInit dX2_init_1 ol_X2_3 w_objinst w_objcode (by omega) (by decide) (by decide) ?_
  refine x_aload_n dX2_init_4 rfl ?_
  refine x_bipush (v := (nI 60)) dX2_init_5 (by decide +kernel) ?_
  refine x_newv 60 dX2_init_7 cl_X2_9 ao_v (by decide) (by decide) ?_
  try simp only [Nat.add_assoc, Nat.reduceAdd]
  refine x_putr dX2_init_10 fl_X2_11 (by first | simp [va_up, k2s] | simp [va_up, k1s] | simp [va_up, hm]) (Or.inr ⟨rfl, rfl⟩) (Or.inr ⟨_, rfl⟩) ?_
  refine x_aload_n dX2_init_13 rfl ?_
  refine x_new dX2_init_14 nw_X2_15 ?_
  try simp only [Nat.add_assoc, Nat.reduceAdd]
  refine x_dup dX2_init_17 rfl ?_
  refine x_cI (c_X0_init l D (by simp [va_up]) (by omega)) dX2_init_18 lk_X2_17 im_X0_init rfl cd_X0_init (by omega) rfl (by decide) rfl (by first | decide | simp [Value.category]) ?_
  rintro v K1 N1 R1 I1 J1 sz1 ⟨rfl, u1, kp1, g1, g2, g3, rfl⟩ -
  simp only [Nat.add_assoc, Nat.reduceAdd] at u1 kp1 g1 g2 g3 ⊢
  have k1s : K1 sz = 2 + 1 := by rw [(kp1 sz (by omega)).1]; simp [va_up, hm]
  refine x_putr dX2_init_21 fl_X2_18 (by first | simp [va_up, k2s] | simp [va_up, k1s] | simp [va_up, hm]) (Or.inr ⟨rfl, rfl⟩) (Or.inl ⟨_, rfl⟩) ?_
  refine x_aload_n dX2_init_24 rfl ?_
  refine x_new dX2_init_25 nw_X2_15 ?_
  try simp only [Nat.add_assoc, Nat.reduceAdd]
  refine x_dup dX2_init_28 rfl ?_
  refine x_cI (c_X0_init l D (by simp [va_up]) (by omega)) dX2_init_29 lk_X2_17 im_X0_init rfl cd_X0_init (by omega) rfl (by decide) rfl (by first | decide | simp [Value.category]) ?_
  rintro v K2 N2 R2 I2 J2 sz2 ⟨rfl, u2, kp2, g4, g5, g6, rfl⟩ -
  simp only [Nat.add_assoc, Nat.reduceAdd] at u2 kp2 g4 g5 g6 ⊢
  have k2s : K2 sz = 2 + 1 := by rw [(kp2 sz (by omega)).1]; simp [va_up, k1s]
  refine x_putr dX2_init_32 fl_X2_22 (by first | simp [va_up, k2s] | simp [va_up, k1s] | simp [va_up, hm]) (Or.inr ⟨rfl, rfl⟩) (Or.inl ⟨_, rfl⟩) ?_
  refine x_aload_n dX2_init_35 rfl ?_
  refine x_iconst (v := (1)) dX2_init_36 (by decide +kernel) ?_
  refine x_puti dX2_init_37 fl_X2_25 (by first | simp [va_up, k2s] | simp [va_up, k1s] | simp [va_up, hm]) rfl (Or.inl rfl) ?_
  have a0 := kp2 sz (by omega)
  have a1 := kp2 (sz + 1) (by omega)
  have a2 := kp2 (sz + 2) (by omega)
  have a3 := kp2 (sz + 3) (by omega)
  have a4 := kp2 (sz + 4) (by omega)
  have b0 := kp1 sz (by omega)
  have b1 := kp1 (sz + 1) (by omega)
  simp [va_up] at a0 a1 a2 a3 a4 b0 b1 g1 g2 g3 g4 g5 g6
  obtain ⟨p1, p2, p3, p4, p5⟩ := a0
  obtain ⟨q1, q2, q3, q4, q5⟩ := a1
  obtain ⟨r1, r2, r3, r4, r5⟩ := a2
  obtain ⟨s1, s2, s3, s4, s5⟩ := a3
  obtain ⟨t1, t2, t3, t4, t5⟩ := a4
  obtain ⟨v1, v2, v3, v4, v5⟩ := b0
  obtain ⟨w1, w2, w3, w4, w5⟩ := b1
  obtain ⟨x1, ⟨x2, x3, x4⟩, x5, x6, x7⟩ := u1
  obtain ⟨y1, ⟨y2, y3, y4⟩, y5, y6, y7⟩ := u2
  simp only [Nat.add_assoc, Nat.reduceAdd] at x1 x2 x3 x4 x5 x6 x7 y1 y2 y3 y4 y5 y6 y7 g1 g2 g3 g4 g5 g6
  refine x_zn dX2_init_40 ⟨rfl, ⟨k2s, ⟨by simp [va_up, p3, v3], by rw [q1, w1], by rw [q2, w2]⟩, by simp [va_up, p3], by simp [va_up], ⟨by rw [r1, x1], ⟨by simp [va_up, r3, x2], by simp only [Nat.add_assoc, Nat.reduceAdd]; rw [s1, x3], by simp only [Nat.add_assoc, Nat.reduceAdd]; rw [s2, x4]⟩, by simp [va_up, r3, x5], by simp only [Nat.add_assoc, Nat.reduceAdd]; rw [t1, x6], by simp only [Nat.add_assoc, Nat.reduceAdd]; rw [t2, x7]⟩, ⟨y1, ⟨by simp [va_up, y2], by simpa using y3, by simpa using y4⟩, by simp [va_up, y5], by simpa using y6, by simpa using y7⟩, fun i hi => Or.inl (by simp [va_up, q3, w3]), fun i j hi hj e z => absurd (by simp [va_up, q3, w3]) z⟩, by simp [va_up, q3, w3], by simp [va_up, p3, v3, hR], by simp [va_up, p3, v3, hR], ?_, ?_, ?_, ?_, ?_, ?_, ?_, rfl⟩
  · simp [va_up, p4, v4, hI]
  · simp [va_up, r4, g1]
  · simp [va_up, g4]
  · rw [s5, g2]
  · rw [t5, g3]
  · exact g5
  · exact g6
/-- a version's cell is found or made -/
def TR (x nv r : Nat) (K N : Nat → Nat) (R : Nat → Nat → Nat) (I : Nat → Nat → Int32) (J : Nat → Nat → Int64) (sz : Nat) (K2 N2 : Nat → Nat) (R2 : Nat → Nat → Nat) (I2 : Nat → Nat → Int32) (J2 : Nat → Nat → Int64) (sz2 : Nat) : Prop :=
  CW x K2 N2 R2 ∧ VW r K2 N2 R2 ∧ r ≠ 0 ∧ R2 (x + 1) = va_up (R (x + 1)) nv r ∧ R2 x = R x ∧ (∀ q, K q ≠ 0 → I2 q = I q ∧ J2 q = J q ∧ K2 q ≠ 0) ∧ (R (x + 1) nv = 0 → J2 (r + 1) = (fun _ => 0) ∧ J2 (r + 2) = (fun _ => 0)) ∧ (R (x + 1) nv ≠ 0 → r = R (x + 1) nv) ∧ (R (x + 1) nv = 0 → sz < r) ∧ sz ≤ sz2 ∧ sz2 ≤ sz + 4
def tkI (I : Nat → Nat → Int32) (x r nv : Nat) : Nat → Nat → Int32 := va_up (va_up I r (va_up (va_up (va_up (I r) 0 (nI nv)) 2 (I x 12)) 3 0)) x (va_up (I x) 8 (nI (nv + 1)))
theorem TR.old {x nv : Nat} {K N : Nat → Nat} {R : Nat → Nat → Nat} {I : Nat → Nat → Int32} {J : Nat → Nat → Int64} {sz : Nat} (cw : CW x K N R) (hv : nv < 60) (h : R (x + 1) nv ≠ 0) : TR x nv (R (x + 1) nv) K N R I J sz K N R I J sz :=
  ⟨cw, cw.wv hv h, h, (va_up_id _ _).symm, rfl, fun q hq => ⟨rfl, rfl, hq⟩, fun z => absurd z h, fun _ => rfl, fun z => absurd z h, Nat.le_refl _, by omega⟩
theorem TR.new {x nv : Nat} {K N : Nat → Nat} {R : Nat → Nat → Nat} {I : Nat → Nat → Int32} {J : Nat → Nat → Int64} {sz : Nat} {K1 N1 : Nat → Nat} {R1 : Nat → Nat → Nat} {I1 : Nat → Nat → Int32} {J1 : Nat → Nat → Int64} (cw : CW x K N R) (hv : nv < 60) (hx : x + 7 ≤ sz) (hdom : ∀ q, K q ≠ 0 → q ≤ sz) (h : R (x + 1) nv = 0) (hw : VW (sz + 1) K1 N1 R1)
    (kp : ∀ q, q < sz + 1 → K1 q = K q ∧ N1 q = N q ∧ R1 q = R q ∧ I1 q = I q ∧ J1 q = J q) (g2 : J1 (sz + 1 + 1) = (fun _ => 0)) (g3 : J1 (sz + 1 + 2) = (fun _ => 0)) : TR x nv (sz + 1) K N R I J sz K1 N1 (va_up R1 (x + 1) (va_up (R1 (x + 1)) nv (sz + 1))) I1 J1 (sz + 4) := by
  have keep : ∀ q, q ≠ x + 1 → va_up R1 (x + 1) (va_up (R1 (x + 1)) nv (sz + 1)) q = R1 q := fun q hq => va_up_ne _ _ hq
  have e1 : va_up R1 (x + 1) (va_up (R1 (x + 1)) nv (sz + 1)) (x + 1) = va_up (R (x + 1)) nv (sz + 1) := by rw [va_up_self, (kp (x + 1) (by omega)).2.2.1]
  have vk : ∀ r, x + 8 ≤ r → VW r K N R → VW r K1 N1 (va_up R1 (x + 1) (va_up (R1 (x + 1)) nv (sz + 1))) ∧ r + 3 ≤ sz := by
    intro r hr w
    have hb : r + 3 ≤ sz := hdom _ (by rw [w.k6]; omega)
    unfold VW
    rw [keep _ (by omega), (kp r (by omega)).1, (kp r (by omega)).2.2.1, (kp (r + 1) (by omega)).1, (kp (r + 1) (by omega)).2.1, (kp (r + 2) (by omega)).1, (kp (r + 2) (by omega)).2.1, (kp (r + 3) (by omega)).1, (kp (r + 3) (by omega)).2.1]
    exact ⟨w, hb⟩
  have hwn : VW (sz + 1) K1 N1 (va_up R1 (x + 1) (va_up (R1 (x + 1)) nv (sz + 1))) := by
    unfold VW
    rw [keep _ (by omega)]
    exact hw
  refine ⟨⟨?_, ⟨?_, ?_, ?_⟩, ?_, ?_, ?_, ?_, fun i hi => ?_, fun i j hi hj e z0 z1 => ?_⟩, hwn, by omega, e1, ?_, fun q hq => ?_, fun _ => ⟨g2, g3⟩, fun z => absurd h z, fun _ => by omega, by omega, by omega⟩
  · rw [(kp x (by omega)).1]; exact cw.k
  · rw [keep _ (by omega), (kp x (by omega)).2.2.1]; exact cw.r0
  · rw [(kp _ (by omega)).1]; exact cw.k0
  · rw [(kp _ (by omega)).2.1]; exact cw.n0
  · rw [keep _ (by omega), (kp x (by omega)).2.2.1]; exact cw.r1
  · rw [keep _ (by omega), (kp x (by omega)).2.2.1]; exact cw.r2
  · unfold UW
    simp only [Nat.add_assoc, Nat.reduceAdd]
    rw [keep _ (by omega), (kp (x + 2) (by omega)).1, (kp (x + 2) (by omega)).2.2.1, (kp (x + 3) (by omega)).1, (kp (x + 3) (by omega)).2.1, (kp (x + 4) (by omega)).1, (kp (x + 4) (by omega)).2.1]
    exact cw.wu
  · unfold UW
    simp only [Nat.add_assoc, Nat.reduceAdd]
    rw [keep _ (by omega), (kp (x + 5) (by omega)).1, (kp (x + 5) (by omega)).2.2.1, (kp (x + 6) (by omega)).1, (kp (x + 6) (by omega)).2.1, (kp (x + 7) (by omega)).1, (kp (x + 7) (by omega)).2.1]
    exact cw.wc
  · rw [e1]
    by_cases hi2 : i = nv
    · subst hi2
      rw [va_up_self]
      exact Or.inr ⟨by omega, hwn⟩
    · rw [va_up_ne _ _ hi2]
      by_cases z : R (x + 1) i = 0
      · exact Or.inl z
      · exact Or.inr ⟨cw.wg hi z, (vk _ (cw.wg hi z) (cw.wv hi z)).1⟩
  · rw [e1] at z0 z1 ⊢
    by_cases hi2 : i = nv
    · subst hi2
      rw [va_up_self, va_up_ne _ _ (Ne.symm e)]
      rw [va_up_ne _ _ (Ne.symm e)] at z1
      exact Or.inr (by have := (vk _ (cw.wg hj z1) (cw.wv hj z1)).2; omega)
    · rw [va_up_ne _ _ hi2] at z0 ⊢
      by_cases hj2 : j = nv
      · subst hj2
        rw [va_up_self]
        exact Or.inl (by have := (vk _ (cw.wg hi z0) (cw.wv hi z0)).2; omega)
      · rw [va_up_ne _ _ hj2] at z1 ⊢
        exact cw.wa hi hj e z0 z1
  · rw [keep _ (by omega), (kp x (by omega)).2.2.1]
  · have := hdom q hq
    obtain ⟨k1, k2, k3, k4, k5⟩ := kp q (by omega)
    exact ⟨k4, k5, by rw [k1]; exact hq⟩
