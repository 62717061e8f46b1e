def Sm (K N : Nat → Nat) (R : Nat → Nat → Nat) (I : Nat → Nat → Int32) (J : Nat → Nat → Int64) (sz : Nat) (K' N' : Nat → Nat) (R' : Nat → Nat → Nat) (I' : Nat → Nat → Int32) (J' : Nat → Nat → Int64) (sz' : Nat) : Prop := K' = K ∧ N' = N ∧ R' = R ∧ I' = I ∧ J' = J ∧ sz' = sz
theorem Sm.rf {K N : Nat → Nat} {R : Nat → Nat → Nat} {I : Nat → Nat → Int32} {J : Nat → Nat → Int64} {sz : Nat} : Sm K N R I J sz K N R I J sz := ⟨rfl, rfl, rfl, rfl, rfl, rfl⟩
set_option maxHeartbeats 4000000 in
theorem c_X2_makeFrom (l : Launch) (D : va_G) {K N : Nat → Nat} {R : Nat → Nat → Nat} {I : Nat → Nat → Int32} {J : Nat → Nat → Int64} {sz : Nat} {x : Nat} (cw : CW x K N R) {nv : Nat} (h8 : I x 8 = nI nv) (hnv : nv < 60) {oi : Nat} (hoi : oi < nv) (ho0 : R (x + 1) oi ≠ 0) : XM l D yX2_makeFrom cX2_makeFrom 3 (some (.object "VersionChunks$Version")) 3 4 263 [.ref x, .ref (R (x + 1) oi)] K N R I J sz (fun v K' N' R' I' J' sz' => ∃ r : Nat, v = some (.ref r) ∧ NV x nv r (J (R (x + 1) oi + 1)) (J (R (x + 1) oi + 2)) (I (R (x + 1) oi + 3)) (I (R (x + 1) oi) 0) (I x 10) K N R I J sz K' N' R' I' J' sz') := by
  refine XM.of (own := RX2) (nm := "makeFrom") (by decide +kernel) rfl rfl (by simp [xla, Value.category]) [.ref x, .ref (R (x + 1) oi), .null] rfl (by rintro v K N R I J sz ⟨r, h, -⟩; exact ⟨r, h⟩) ?_
  refine x_aload_n dX2_makeFrom_0 rfl ?_
  refine x_cV (c_X2_takeRoom l D cw h8 hnv) dX2_makeFrom_1 lk_X2_195 im_X2_takeRoom se_X2_takeRoom cd_X2_takeRoom (by decide) cw.k vcX2 rfl (by decide) rfl (by first | decide | simp [Value.category]) ?_
  rintro v K1 N1 R1 I1 J1 sz1 ⟨r, I2, rfl, tr, rfl⟩ -
  have n0 := NV.ofTR tr cw hnv
  have hw := n0.vw
  have ho := n0.vo (show oi ≠ nv by omega) (by omega) ho0
  have hap := n0.apart (show oi ≠ nv by omega) (by omega) ho0
  have old := n0.old cw (show oi ≠ nv by omega) (by omega) ho0
  have n1 := ((n0.setA (A' := J (R (x + 1) oi + 1)) (F := xcp 64 (J1 (R (x + 1) oi + 1)) (J1 (r + 1))) (fun n hn => by rw [xcp, if_pos hn, old.2.1])).setC (C' := J (R (x + 1) oi + 2)) (F := xcp 128 (J1 (R (x + 1) oi + 2)) (J1 (r + 2))) (fun n hn => by rw [xcp, if_pos hn, old.2.2.1])).setD (D' := I (R (x + 1) oi + 3)) (F := xcp 64 (tkI I2 x r nv (R (x + 1) oi + 3)) (tkI I2 x r nv (r + 3))) (fun n hn => by rw [xcp, if_pos hn, old.2.2.2])
  refine x_astore_n dX2_makeFrom_4 (by decide) rfl ?_
  refine x_aload_n dX2_makeFrom_5 rfl ?_
  refine x_ifnull 22 dX2_makeFrom_6 (by decide) (fun c6 => ?_) (fun c6 => ?_)
  · exact absurd c6 n0.2.1
  · refine x_aload_n dX2_makeFrom_9 rfl ?_
    refine x_aload_n dX2_makeFrom_10 rfl ?_
    refine x_eW (c_X1_copyItems l D hw ho hap) dX2_makeFrom_11 lk_X2_199 im_X1_copyItems se_X1_copyItems cd_X1_copyItems (by decide) hw.k vcX1 rfl (by decide) rfl (by first | decide | simp [Value.category]) ?_
    refine x_aload_n dX2_makeFrom_14 rfl ?_
    refine x_aload_n dX2_makeFrom_15 rfl ?_
    refine x_geti dX2_makeFrom_16 fl_X2_102 ho.k rfl ?_
    refine x_puti dX2_makeFrom_19 fl_X2_185 hw.k rfl (Or.inl rfl) ?_
    refine x_aload_n dX2_makeFrom_22 rfl ?_
    exact x_za dX2_makeFrom_23 ⟨r, rfl, n1.setP (par' := I (R (x + 1) oi) 0) (by rw [show va_up (tkI I2 x r nv) (r + 3) (xcp 64 (tkI I2 x r nv (R (x + 1) oi + 3)) (tkI I2 x r nv (r + 3))) (R (x + 1) oi) = I (R (x + 1) oi) from by rw [va_up_ne _ _ (by omega), old.1]])⟩
set_option maxHeartbeats 4000000 in
theorem c_X2_makeFromF (l : Launch) (D : va_G) {K N : Nat → Nat} {R : Nat → Nat → Nat} {I : Nat → Nat → Int32} {J : Nat → Nat → Int64} {sz : Nat} {x : Nat} (cw : CW x K N R) (h8 : I x 8 = nI 60) {o : Nat} : XM l D yX2_makeFrom cX2_makeFrom 3 (some (.object "VersionChunks$Version")) 3 0 0 [.ref x, .ref o] K N R I J sz (Zx (some (.ref 0)) K N R I J sz) := by
  refine XM.of (own := RX2) (nm := "makeFrom") (by decide +kernel) rfl rfl (by simp [xla, Value.category]) [.ref x, .ref o, .null] rfl (Zx.rt ⟨_, rfl⟩) ?_
  refine x_aload_n dX2_makeFrom_0 rfl ?_
  refine x_eV (c_X2_takeRoomF l D cw h8) dX2_makeFrom_1 lk_X2_195 im_X2_takeRoom se_X2_takeRoom cd_X2_takeRoom (by decide) cw.k vcX2 rfl (by decide) rfl (by first | decide | simp [Value.category]) ?_
  refine x_astore_n dX2_makeFrom_4 (by decide) rfl ?_
  refine x_aload_n dX2_makeFrom_5 rfl ?_
  refine x_ifnull 22 dX2_makeFrom_6 (by decide) (fun c6 => ?_) (fun c6 => ?_)
  · refine x_aload_n dX2_makeFrom_22 rfl ?_
    exact x_ra dX2_makeFrom_23 rfl
  · exact absurd rfl c6
set_option maxHeartbeats 4000000 in
theorem c_X2_makeFirst (l : Launch) (D : va_G) {K N : Nat → Nat} {R : Nat → Nat → Nat} {I : Nat → Nat → Int32} {J : Nat → Nat → Int64} {sz : Nat} {x : Nat} (cw : CW x K N R) (h8 : I x 8 = nI 0) {nc : Nat} (h7 : I x 7 = nI nc) (hnc : nc ≤ 64) (h10 : I x 10 = nI 0) : XM l D yX2_makeFirst cX2_makeFirst 3 none 3 4 263 [.ref x] K N R I J sz (fun v K' N' R' I' J' sz' => v = none ∧ ∃ (r : Nat) (A Cc : Nat → Int64) (Dd : Nat → Int32), NV x 0 r A Cc Dd (-99999999) (nI nc) K N R I J sz K' N' R' I' J' sz' ∧ (∀ k, k < nc → Dd k = nI k) ∧ (R (x + 1) 0 = 0 → A = (fun _ => 0) ∧ Cc = (fun _ => 0)) ∧ (R (x + 1) 0 ≠ 0 → A = J (R (x + 1) 0 + 1) ∧ Cc = J (R (x + 1) 0 + 2))) := by
  refine XM.of (own := RX2) (nm := "makeFirst") (by decide +kernel) rfl rfl (by simp [xla, Value.category]) [.ref x, .null, .null] rfl (by rintro v K N R I J sz ⟨h, -⟩; exact h) ?_
  refine x_aload_n dX2_makeFirst_0 rfl ?_
  refine x_cV (c_X2_takeRoom l D cw h8 (by omega)) dX2_makeFirst_1 lk_X2_195 im_X2_takeRoom se_X2_takeRoom cd_X2_takeRoom (by decide) cw.k vcX2 rfl (by decide) rfl (by first | decide | simp [Value.category]) ?_
  rintro v K1 N1 R1 I1 J1 sz1 ⟨r, I2, rfl, tr, rfl⟩ -
  have n0 := NV.ofTR tr cw (by omega)
  have hz1 : R (x + 1) 0 = 0 → J1 (r + 1) = (fun _ => 0) ∧ J1 (r + 2) = (fun _ => 0) := tr.2.2.2.2.2.2.1
  have hz2 : R (x + 1) 0 ≠ 0 → J1 (r + 1) = J (R (x + 1) 0 + 1) ∧ J1 (r + 2) = J (R (x + 1) 0 + 2) := fun z => by
    have e := tr.2.2.2.2.2.2.2.1 z
    have w := cw.wv (show 0 < 60 by omega) z
    rw [e]
    exact ⟨(tr.2.2.2.2.2.1 _ (by rw [w.k4]; omega)).2.1, (tr.2.2.2.2.2.1 _ (by rw [w.k5]; omega)).2.1⟩
  rw [h10] at n0
  have hw := n0.vw
  have loop : ∀ (t k : Nat), t + k = nc → ∀ (Ii : Nat → Nat → Int32) (Dd : Nat → Int32), NV x 0 r (J1 (r + 1)) (J1 (r + 2)) Dd (-99999999) (nI k) K N R I J sz K1 N1 R1 Ii J1 sz1 → (∀ j, j < k → Dd j = nI j) → XW l D (fun _ => True) RX2 "makeFirst" cX2_makeFirst 3 3 4 263 K sz (fun v K' N' R' I' J' sz' => v = none ∧ ∃ (r : Nat) (A Cc : Nat → Int64) (Dd : Nat → Int32), NV x 0 r A Cc Dd (-99999999) (nI nc) K N R I J sz K' N' R' I' J' sz' ∧ (∀ k, k < nc → Dd k = nI k) ∧ (R (x + 1) 0 = 0 → A = (fun _ => 0) ∧ Cc = (fun _ => 0)) ∧ (R (x + 1) 0 ≠ 0 → A = J (R (x + 1) 0 + 1) ∧ Cc = J (R (x + 1) 0 + 2))) 18 [.ref x, .ref r, .int (nI k)] [] K1 N1 R1 (Ii) (J1) sz1 0 0 := by
    intro t
    induction t with
    | zero =>
      intro k hk Ii Dd n1 hd
      have cw1 := n1.cw
      have h7' : Ii x 7 = nI nc := by rw [n1.2.2.2.2.1]; simp [va_up, h7]
      refine x_iload_n dX2_makeFirst_18 rfl ?_
      refine x_aload_n dX2_makeFirst_19 rfl ?_
      refine x_geti dX2_makeFirst_20 fl_X2_32 cw1.k rfl ?_
      refine x_icmp_ge 42 dX2_makeFirst_23 (by decide) (fun c23 => ?_) (fun c23 => ?_)
      · obtain rfl : k = nc := by omega
        exact x_zn dX2_makeFirst_42 ⟨rfl, r, _, _, Dd, n1, hd, hz1, hz2⟩
      · exact absurd (by rw [h7']; exact nI_le (by omega) (by omega)) c23
    | succ t ih =>
      intro k hk Ii Dd n1 hd
      have cw1 := n1.cw
      have h7' : Ii x 7 = nI nc := by rw [n1.2.2.2.2.1]; simp [va_up, h7]
      have h10' : Ii x 10 = nI k := by rw [n1.2.2.2.2.1]; simp [va_up]
      have g := n1.ge
      refine x_iload_n dX2_makeFirst_18 rfl ?_
      refine x_aload_n dX2_makeFirst_19 rfl ?_
      refine x_geti dX2_makeFirst_20 fl_X2_32 cw1.k rfl ?_
      refine x_icmp_ge 42 dX2_makeFirst_23 (by decide) (fun c23 => ?_) (fun c23 => ?_)
      · rw [h7'] at c23; exact absurd c23 (nI_ge (by omega) (by omega))
      · refine x_aload_n dX2_makeFirst_26 rfl ?_
        refine x_getq dX2_makeFirst_27 fl_X2_90 n1.vw.k n1.vw.r6 rfl ?_
        refine x_iload_n dX2_makeFirst_30 rfl ?_
        refine x_aload_n dX2_makeFirst_31 rfl ?_
        refine x_eV (c_X2_nextChunk l D cw1) dX2_makeFirst_32 lk_X2_98 im_X2_nextChunk se_X2_nextChunk cd_X2_nextChunk (by decide) cw1.k vcX2 rfl (by decide) rfl (by first | decide | simp [Value.category]) ?_
        rw [h10', nI_1]
        refine x_iast (k) dX2_makeFirst_35 n1.vw.k6 n1.vw.n6 rfl (by omega) (by decide) ?_
        refine x_iinc dX2_makeFirst_36 rfl rfl (by decide) rfl ?_
        refine x_goto 18 dX2_makeFirst_39 (by decide) ?_
        exact x_eql (by show [_, _, Value.int _] = _; simp [nI_1]) (ih (k + 1) (by omega) _ (va_up Dd k (nI k)) ((n1.setE rfl).setD (fun n hn => by
          by_cases e : n = k
          · subst e; rw [va_up_self, va_up_self]
          · rw [va_up_ne _ _ e, va_up_ne _ _ e, va_up_ne _ _ (show r + 3 ≠ x by omega)]; exact n1.2.2.2.2.2.2.2.2.2.1 n hn)) (fun j hj => by
          by_cases e : j = k
          · subst e; rw [va_up_self]
          · rw [va_up_ne _ _ e]; exact hd j (by omega)))
  refine x_astore_n dX2_makeFirst_4 (by decide) rfl ?_
  refine x_aload_n dX2_makeFirst_5 rfl ?_
  refine x_ifnonnull 10 dX2_makeFirst_6 (by decide) (fun c6 => ?_) (fun c6 => ?_)
  · refine x_aload_n dX2_makeFirst_10 rfl ?_
    refine x_ldc dX2_makeFirst_11 ki_X2_109 ?_
    refine x_puti dX2_makeFirst_13 fl_X2_185 hw.k rfl (Or.inl rfl) ?_
    refine x_iconst (v := (0)) dX2_makeFirst_16 (by decide +kernel) ?_
    refine x_istore_n dX2_makeFirst_17 (by decide) rfl ?_
    exact x_eql rfl (loop nc 0 rfl _ _ (n0.setP rfl) (fun j hj => by omega))
  · exact absurd c6 n0.2.1
theorem bI_bool {a b : Bool} (h : bI (a = true) = bI (b = true)) : a = b := by
  revert h; cases a <;> cases b <;> decide
set_option maxHeartbeats 4000000 in
theorem c_X2_changeArc (l : Launch) (D : va_G) {K N : Nat → Nat} {R : Nat → Nat → Nat} {I : Nat → Nat → Int32} {J : Nat → Nat → Int64} {sz : Nat} {x : Nat} (cw : CW x K N R) {nv : Nat} (h8 : I x 8 = nI nv) (hnv : nv ≤ 60) (hvv : ∀ i, i < nv → R (x + 1) i ≠ 0) {nn : Nat} (h5 : I x 5 = nI nn) (hnn : nn ≤ 64) {s : Nat} (h6 : I x 6 = nI s) (hs0 : 0 < s) (hs : s ≤ 64) (qv qa qb : Int32) (th : Bool) : XM l D yX2_changeArc cX2_changeArc 7 (some .int) 4 4 263 [.ref x, .int qv, .int qa, .int qb, .int (bI (th = true))] K N R I J sz (fun v K' N' R' I' J' sz' => v = some (.int (if pL R I x nv qv ∧ pN nn qa ∧ pN nn qb then (if bt (J (R (x + 1) qv.toNatClampNeg + 1) qa.toNatClampNeg) qb.toNatClampNeg = th then -2 else chA nv) else -1)) ∧ (if (pL R I x nv qv ∧ pN nn qa ∧ pN nn qb) ∧ ¬ bt (J (R (x + 1) qv.toNatClampNeg + 1) qa.toNatClampNeg) qb.toNatClampNeg = th ∧ nv < 60 then ∃ r : Nat, NV x nv r (va_up (J (R (x + 1) qv.toNatClampNeg + 1)) qa.toNatClampNeg (J (R (x + 1) qv.toNatClampNeg + 1) qa.toNatClampNeg ^^^ (1 : Int64) <<< (qb.toInt64 &&& 63))) (J (R (x + 1) qv.toNatClampNeg + 2)) (va_up (I (R (x + 1) qv.toNatClampNeg + 3)) (qa.toNatClampNeg / s) (I x 10)) (I (R (x + 1) qv.toNatClampNeg) 0) (I x 10 + 1) K N R I J sz K' N' R' I' J' sz' else Sm K N R I J sz K' N' R' I' J' sz')) := by
  refine XM.of (own := RX2) (nm := "changeArc") (by decide +kernel) rfl rfl (by simp [xla, Value.category]) [.ref x, .int qv, .int qa, .int qb, .int (bI (th = true)), .null, .null] rfl (by rintro v K N R I J sz ⟨h, -⟩; exact ⟨_, h⟩) ?_
  refine x_aload_n dX2_changeArc_0 rfl ?_
  refine x_iload_n dX2_changeArc_1 rfl ?_
  refine x_eV (c_X2_living l D cw h8 hnv hvv _) dX2_changeArc_2 lk_X2_67 im_X2_living se_X2_living cd_X2_living (by decide) cw.k vcX2 rfl (by decide) rfl (by first | decide | simp [Value.category]) ?_
  refine x_astore dX2_changeArc_5 (by decide) rfl ?_
  refine x_aload dX2_changeArc_7 rfl ?_
  refine x_ifnull 28 dX2_changeArc_9 (by decide) (fun c9 => ?_) (fun c9 => ?_)
  · have c9 := liv_n (fun z => hvv _ z.1.2) c9
    have hG : ¬ (pL R I x nv qv ∧ pN nn qa ∧ pN nn qb) := fun z => c9 z.1
    refine x_iconst (v := (-1)) dX2_changeArc_28 (by decide +kernel) ?_
    refine x_zi dX2_changeArc_29 ⟨by rw [if_neg hG], ?_⟩
    rw [if_neg (fun z => hG z.1)]
    exact Sm.rf
  · have hv : pL R I x nv qv := liv_s c9
    simp only [if_pos hv]
    obtain ⟨vj, hbv, rfl⟩ := pN_ex hv.1
    have hcv : (nI vj).toNatClampNeg = vj := nI_clamp (by omega)
    simp only [hcv]
    have hw := cw.wv (show vj < 60 by omega) (hvv vj hbv)
    refine x_aload_n dX2_changeArc_12 rfl ?_
    refine x_iload_n dX2_changeArc_13 rfl ?_
    refine x_eV (c_X2_isNode l D cw h5 hnn _) dX2_changeArc_14 lk_X2_75 im_X2_isNode se_X2_isNode cd_X2_isNode (by decide) cw.k vcX2 rfl (by decide) rfl (by first | decide | simp [Value.category]) ?_
    refine x_if_eq 28 dX2_changeArc_17 (by decide) (fun c17 => ?_) (fun c17 => ?_)
    · rw [bI_e0] at c17
      have hG : ¬ (pL R I x nv (nI vj) ∧ pN nn qa ∧ pN nn qb) := fun z => c17 z.2.1
      refine x_iconst (v := (-1)) dX2_changeArc_28 (by decide +kernel) ?_
      refine x_zi dX2_changeArc_29 ⟨by rw [if_neg hG], ?_⟩
      rw [if_neg (fun z => hG z.1)]
      exact Sm.rf
    · rw [bI_n0] at c17
      obtain ⟨aj, haj, rfl⟩ := pN_ex c17
      refine x_aload_n dX2_changeArc_20 rfl ?_
      refine x_iload_n dX2_changeArc_21 rfl ?_
      refine x_eV (c_X2_isNode l D cw h5 hnn _) dX2_changeArc_22 lk_X2_75 im_X2_isNode se_X2_isNode cd_X2_isNode (by decide) cw.k vcX2 rfl (by decide) rfl (by first | decide | simp [Value.category]) ?_
      refine x_if_ne 30 dX2_changeArc_25 (by decide) (fun c25 => ?_) (fun c25 => ?_)
      · rw [bI_n0] at c25
        obtain ⟨bj, hbj, rfl⟩ := pN_ex c25
        have hG : pL R I x nv (nI vj) ∧ pN nn (nI aj) ∧ pN nn (nI bj) := ⟨hv, c17, c25⟩
        simp only [clz (show aj < 64 by omega), clz (show bj < 64 by omega)]
        refine x_aload dX2_changeArc_30 rfl ?_
        refine x_iload_n dX2_changeArc_32 rfl ?_
        refine x_iload_n dX2_changeArc_33 rfl ?_
        refine x_eV (c_X1_leads l D hw (n := aj) (t := bj) (by omega) (by omega)) dX2_changeArc_34 lk_X2_105 im_X1_leads se_X1_leads cd_X1_leads (by decide) hw.k vcX1 rfl (by decide) rfl (by first | decide | simp [Value.category]) ?_
        refine x_iload dX2_changeArc_37 rfl ?_
        refine x_icmp_ne 45 dX2_changeArc_39 (by decide) (fun c39 => ?_) (fun c39 => ?_)
        · have hne : ¬ bt (J (R (x + 1) vj + 1) aj) bj = th := fun z => c39 (by rw [z])
          rcases Nat.lt_or_ge nv 60 with hl | hl
          · refine x_aload_n dX2_changeArc_45 rfl ?_
            refine x_aload dX2_changeArc_46 rfl ?_
            refine x_cV (c_X2_makeFrom l D cw h8 hl (oi := vj) hbv (hvv vj hbv)) dX2_changeArc_48 lk_X2_78 im_X2_makeFrom se_X2_makeFrom cd_X2_makeFrom (by decide) cw.k vcX2 rfl (by decide) rfl (by first | decide | simp [Value.category]) ?_
            rintro v K1 N1 R1 I1 J1 sz1 ⟨r, rfl, n1⟩ -
            have cw1 := n1.cw
            have hr := n1.vw
            have g := n1.ge
            have hI : I1 x 10 = I x 10 := by rw [n1.2.2.2.2.1]; simp [va_up]
            have h6' : I1 x 6 = nI s := by rw [n1.2.2.2.2.1]; simp [va_up, h6]
            have hrow := n1.2.2.2.2.2.2.2.1
            have hks : aj / s < 64 := Nat.lt_of_le_of_lt (Nat.div_le_self _ _) (by omega)
            
            refine x_astore dX2_changeArc_51 (by decide) rfl ?_
            refine x_aload dX2_changeArc_53 rfl ?_
            refine x_ifnonnull 61 dX2_changeArc_55 (by decide) (fun c55 => ?_) (fun c55 => ?_)
            · refine x_aload dX2_changeArc_61 rfl ?_
              refine x_getq dX2_changeArc_63 fl_X2_110 hr.k hr.r4 rfl ?_
              refine x_iload_n dX2_changeArc_66 rfl ?_
              refine x_dup2 dX2_changeArc_67 rfl rfl ?_
              refine x_lald (aj) dX2_changeArc_68 hr.k4 hr.n4 rfl (by omega) (by decide) ?_
              refine x_lconst (v := 1) dX2_changeArc_69 (by decide +kernel) ?_
              refine x_iload_n dX2_changeArc_70 rfl ?_
              refine x_lshl dX2_changeArc_71 rfl ?_
              refine x_lxor dX2_changeArc_72 ?_
              refine x_last (aj) dX2_changeArc_73 hr.k4 hr.n4 rfl (by omega) (by decide) ?_
              have n2 := n1.setA (A' := va_up (J (R (x + 1) vj + 1)) aj (J (R (x + 1) vj + 1) aj ^^^ (1 : Int64) <<< ((nI bj).toInt64 &&& 63))) (F := va_up (J1 (r + 1)) aj (J1 (r + 1) aj ^^^ (1 : Int64) <<< ((nI bj).toInt64 &&& 63))) (fun n hn => by
                by_cases e : n = aj
                · subst e; rw [va_up_self, va_up_self, hrow _ hn]
                · rw [va_up_ne _ _ e, va_up_ne _ _ e]; exact hrow n hn)
              refine x_aload dX2_changeArc_74 rfl ?_
              refine x_getq dX2_changeArc_76 fl_X2_90 hr.k hr.r6 rfl ?_
              refine x_aload_n dX2_changeArc_79 rfl ?_
              refine x_iload_n dX2_changeArc_80 rfl ?_
              refine x_eV (c_X2_chunkOfNode l D cw1 (s := s) (n := aj) h6' hs0 hs (by omega)) dX2_changeArc_81 lk_X2_94 im_X2_chunkOfNode se_X2_chunkOfNode cd_X2_chunkOfNode (by decide) cw1.k vcX2 rfl (by decide) rfl (by first | decide | simp [Value.category]) ?_
              refine x_aload_n dX2_changeArc_84 rfl ?_
              refine x_eV (c_X2_nextChunk l D cw1) dX2_changeArc_85 lk_X2_98 im_X2_nextChunk se_X2_nextChunk cd_X2_nextChunk (by decide) cw1.k vcX2 rfl (by decide) rfl (by first | decide | simp [Value.category]) ?_
              rw [hI]
              refine x_iast (aj / s) dX2_changeArc_88 hr.k6 hr.n6 rfl (by omega) (by decide) ?_
              have n3 := (n2.setE (ce' := I x 10 + 1) (F := va_up (I1 x) 10 (I x 10 + 1)) rfl).setD (D' := va_up (I (R (x + 1) vj + 3)) (aj / s) (I x 10)) (F := va_up (va_up I1 x (va_up (I1 x) 10 (I x 10 + 1)) (r + 3)) (aj / s) (I x 10)) (fun n hn => by
                by_cases e : n = aj / s
                · subst e; rw [va_up_self, va_up_self]
                · rw [va_up_ne _ _ e, va_up_ne _ _ e, va_up_ne _ _ (show r + 3 ≠ x by omega)]; exact n1.2.2.2.2.2.2.2.2.2.1 n hn)
              refine x_aload dX2_changeArc_89 rfl ?_
              refine x_geti dX2_changeArc_91 fl_X2_102 hr.k rfl ?_
              refine x_zi dX2_changeArc_94 ⟨by rw [if_pos hG, if_neg hne, chA, if_neg (by omega), n3.2.2.2.2.2.2.1.1], ?_⟩
              rw [if_pos ⟨hG, hne, hl⟩]
              exact ⟨r, n3⟩
            · exact absurd c55 n1.2.1
          · obtain rfl : nv = 60 := by omega
            refine x_aload_n dX2_changeArc_45 rfl ?_
            refine x_aload dX2_changeArc_46 rfl ?_
            refine x_eV (c_X2_makeFromF l D cw h8) dX2_changeArc_48 lk_X2_78 im_X2_makeFrom se_X2_makeFrom cd_X2_makeFrom (by decide) cw.k vcX2 rfl (by decide) rfl (by first | decide | simp [Value.category]) ?_
            refine x_astore dX2_changeArc_51 (by decide) rfl ?_
            refine x_aload dX2_changeArc_53 rfl ?_
            refine x_ifnonnull 61 dX2_changeArc_55 (by decide) (fun c55 => ?_) (fun c55 => ?_)
            · exact absurd rfl c55
            · refine x_bipush (v := (-3)) dX2_changeArc_58 (by decide +kernel) ?_
              refine x_zi dX2_changeArc_60 ⟨by rw [if_pos hG, if_neg hne]; rfl, ?_⟩
              rw [if_neg (fun z => by omega)]
              exact Sm.rf
        · have hne : bt (J (R (x + 1) vj + 1) aj) bj = th := bI_bool (by simpa using c39)
          refine x_bipush (v := (-2)) dX2_changeArc_42 (by decide +kernel) ?_
          refine x_zi dX2_changeArc_44 ⟨by rw [if_pos hG, if_pos hne], ?_⟩
          rw [if_neg (fun z => z.2.1 hne)]
          exact Sm.rf
      · rw [bI_e0] at c25
        have hG : ¬ (pL R I x nv (nI vj) ∧ pN nn (nI aj) ∧ pN nn qb) := fun z => c25 z.2.2
        refine x_iconst (v := (-1)) dX2_changeArc_28 (by decide +kernel) ?_
        refine x_zi dX2_changeArc_29 ⟨by rw [if_neg hG], ?_⟩
        rw [if_neg (fun z => hG z.1)]
        exact Sm.rf
