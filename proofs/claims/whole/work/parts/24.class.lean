/-! The class: its cells, its leaves -/
section
variable {l : Launch} {D : va_G} {X : State → Prop} {own nm : String} {cc : ByteArray} {nL d mc ms : Nat} {K0 : Nat → Nat} {sz0 : Nat} {Z : ZT} {pc : Nat} {L st : List Value} {K N : Nat → Nat} {R : Nat → Nat → Nat} {I : Nat → Nat → Int32} {J : Nat → Nat → Int64} {sz kc ks : Nat}
theorem x_dup2 {v w : Value} (hd : decode cc pc = .ok (.dup2, 1)) (hv : v.category = 1) (hw : w.category = 1) (k : XW l D X own nm cc nL d mc ms K0 sz0 Z (pc + 1) L (v :: w :: v :: w :: st) K N R I J sz kc ks) : XW l D X own nm cc nL d mc ms K0 sz0 Z pc L (v :: w :: st) K N R I J sz kc ks := by
  intro p e Rm s m args below meth c H locs cells slots Q ls hC hH hl hE
  exact lv_dup2_11 hC.1 hC.2.1 hd (by rw [tv_cat]; exact hv) (by rw [tv_cat]; exact hw) (k p e Rm s m args below meth c H locs cells slots Q ls hC hH hl hE)
end
def UW (u : Nat) (K N : Nat → Nat) (R : Nat → Nat → Nat) : Prop := K u = 1 ∧ (R u 1 = u + 1 ∧ K (u + 1) = 11 ∧ N (u + 1) = 64) ∧ (R u 2 = u + 2 ∧ K (u + 2) = 11 ∧ N (u + 2) = 64)
def VW (v : Nat) (K N : Nat → Nat) (R : Nat → Nat → Nat) : Prop := K v = 2 ∧ (R v 4 = v + 1 ∧ K (v + 1) = 11 ∧ N (v + 1) = 64) ∧ (R v 5 = v + 2 ∧ K (v + 2) = 11 ∧ N (v + 2) = 128) ∧ (R v 6 = v + 3 ∧ K (v + 3) = 10 ∧ N (v + 3) = 64)
def CW (x : Nat) (K N : Nat → Nat) (R : Nat → Nat → Nat) : Prop := K x = 3 ∧ (R x 0 = x + 1 ∧ K (x + 1) = 13 ∧ N (x + 1) = 60) ∧ R x 1 = x + 2 ∧ R x 2 = x + 5 ∧ UW (x + 2) K N R ∧ UW (x + 5) K N R ∧
  (∀ i, i < 60 → R (x + 1) i = 0 ∨ (x + 8 ≤ R (x + 1) i ∧ VW (R (x + 1) i) K N R)) ∧ (∀ i j, i < 60 → j < 60 → i ≠ j → R (x + 1) i ≠ 0 → R (x + 1) j ≠ 0 → R (x + 1) i + 4 ≤ R (x + 1) j ∨ R (x + 1) j + 4 ≤ R (x + 1) i)
section
variable {u x v : Nat} {K N : Nat → Nat} {R : Nat → Nat → Nat}
theorem UW.k (h : UW u K N R) : K u = 0 + 1 := h.1
theorem UW.r1 (h : UW u K N R) : R u 1 = u + 1 := h.2.1.1
theorem UW.k1 (h : UW u K N R) : K (u + 1) = 11 := h.2.1.2.1
theorem UW.n1 (h : UW u K N R) : N (u + 1) = 64 := h.2.1.2.2
theorem UW.r2 (h : UW u K N R) : R u 2 = u + 2 := h.2.2.1
theorem UW.k2 (h : UW u K N R) : K (u + 2) = 11 := h.2.2.2.1
theorem UW.n2 (h : UW u K N R) : N (u + 2) = 64 := h.2.2.2.2
theorem VW.k (h : VW v K N R) : K v = 1 + 1 := h.1
theorem VW.r4 (h : VW v K N R) : R v 4 = v + 1 := h.2.1.1
theorem VW.k4 (h : VW v K N R) : K (v + 1) = 11 := h.2.1.2.1
theorem VW.n4 (h : VW v K N R) : N (v + 1) = 64 := h.2.1.2.2
theorem VW.r5 (h : VW v K N R) : R v 5 = v + 2 := h.2.2.1.1
theorem VW.k5 (h : VW v K N R) : K (v + 2) = 11 := h.2.2.1.2.1
theorem VW.n5 (h : VW v K N R) : N (v + 2) = 128 := h.2.2.1.2.2
theorem VW.r6 (h : VW v K N R) : R v 6 = v + 3 := h.2.2.2.1
theorem VW.k6 (h : VW v K N R) : K (v + 3) = 10 := h.2.2.2.2.1
theorem VW.n6 (h : VW v K N R) : N (v + 3) = 64 := h.2.2.2.2.2
theorem CW.k (h : CW x K N R) : K x = 2 + 1 := h.1
theorem CW.r0 (h : CW x K N R) : R x 0 = x + 1 := h.2.1.1
theorem CW.k0 (h : CW x K N R) : K (x + 1) = 13 := h.2.1.2.1
theorem CW.n0 (h : CW x K N R) : N (x + 1) = 60 := h.2.1.2.2
theorem CW.r1 (h : CW x K N R) : R x 1 = x + 2 := h.2.2.1
theorem CW.r2 (h : CW x K N R) : R x 2 = x + 5 := h.2.2.2.1
theorem CW.wu (h : CW x K N R) : UW (x + 2) K N R := h.2.2.2.2.1
theorem CW.wc (h : CW x K N R) : UW (x + 5) K N R := h.2.2.2.2.2.1
theorem CW.wv (h : CW x K N R) {i : Nat} (hi : i < 60) (h0 : R (x + 1) i ≠ 0) : VW (R (x + 1) i) K N R := ((h.2.2.2.2.2.2.1 i hi).resolve_left h0).2
theorem CW.wg (h : CW x K N R) {i : Nat} (hi : i < 60) (h0 : R (x + 1) i ≠ 0) : x + 8 ≤ R (x + 1) i := ((h.2.2.2.2.2.2.1 i hi).resolve_left h0).1
theorem CW.wa (h : CW x K N R) {i j : Nat} (hi : i < 60) (hj : j < 60) (e : i ≠ j) (h0 : R (x + 1) i ≠ 0) (h1 : R (x + 1) j ≠ 0) : R (x + 1) i + 4 ≤ R (x + 1) j ∨ R (x + 1) j + 4 ≤ R (x + 1) i := h.2.2.2.2.2.2.2 i j hi hj e h0 h1
end
theorem it_ushr (w : Int64) {t : Nat} (ht : t < 64) : (w.toUInt64 >>> ((nI t).toInt64.toUInt64 &&& Int64.toUInt64 63)).toInt64 &&& 1 = it w t := by
  apply Int64.toBitVec_inj.mp
  rw [Int64.toBitVec_and]
  show (w.toBitVec >>> (((nI t).toInt64.toUInt64 &&& Int64.toUInt64 63).toBitVec % 64)) &&& 1#64 = _
  rw [amt63u t ht, and1]
  rw [show (BitVec.ofNat 64 t % 64) = BitVec.ofNat 64 t from BitVec.eq_of_toNat_eq (by simp; omega)]
  rw [BitVec.ushiftRight_eq', BitVec.getLsbD_ushiftRight]
  simp only [BitVec.toNat_ofNat]
  rw [Nat.mod_eq_of_lt (show t < 2 ^ 64 by omega)]
  unfold it
  show (if bt w t = true then 1#64 else 0#64) = _
  cases h : bt w t <;> rfl
set_option maxHeartbeats 4000000 in
theorem c_X2_isBitSet (l : Launch) (D : va_G) {K N : Nat → Nat} {R : Nat → Nat → Nat} {I : Nat → Nat → Int32} {J : Nat → Nat → Int64} {sz : Nat} {w : Int64} {t : Nat} (ht : t < 64) : XM l D yX2_isBitSet cX2_isBitSet 3 (some .boolean) 0 0 0 [.long w, .int (nI t)] K N R I J sz (Zx (some (.int (bI (bt w t = true)))) K N R I J sz) := by
  refine XM.of (own := RX2) (nm := "isBitSet") (by decide +kernel) rfl rfl (by simp [xla, Value.category]) [.long w, .null, .int (nI t)] rfl (Zx.rt bI_rt) ?_
  refine x_lload_n dX2_isBitSet_0 rfl ?_
  refine x_iload_n dX2_isBitSet_1 rfl ?_
  refine x_lushr dX2_isBitSet_2 rfl ?_
  refine x_lconst (v := 1) dX2_isBitSet_3 (by decide +kernel) ?_
  refine x_land dX2_isBitSet_4 ?_
  refine x_lconst (v := 1) dX2_isBitSet_5 (by decide +kernel) ?_
  refine x_lcmp dX2_isBitSet_6 ?_
  refine x_if_ne 14 dX2_isBitSet_7 (by decide) (fun c7 => ?_) (fun c7 => ?_)
  · rw [it_ushr w ht, cmp_eq, it_1] at c7
    refine x_iconst (v := (0)) dX2_isBitSet_14 (by decide +kernel) ?_
    exact x_ri dX2_isBitSet_15 (by simp [bI, c7])
  · rw [it_ushr w ht, cmp_eq, it_1] at c7
    refine x_iconst (v := (1)) dX2_isBitSet_10 (by decide +kernel) ?_
    refine x_goto 15 dX2_isBitSet_11 (by decide) ?_
    exact x_ri dX2_isBitSet_15 (by simp [bI, c7])
set_option maxHeartbeats 4000000 in
theorem c_X2_isNode (l : Launch) (D : va_G) {K N : Nat → Nat} {R : Nat → Nat → Nat} {I : Nat → Nat → Int32} {J : Nat → Nat → Int64} {sz : Nat} {x : Nat} (cw : CW x K N R) {nn : Nat} (h5 : I x 5 = nI nn) (hnn : nn ≤ 64) (qv : Int32) : XM l D yX2_isNode cX2_isNode 2 (some .boolean) 0 0 0 [.ref x, .int qv] K N R I J sz (Zx (some (.int (bI (pN nn qv)))) K N R I J sz) := by
  refine XM.of (own := RX2) (nm := "isNode") (by decide +kernel) rfl rfl (by simp [xla, Value.category]) [.ref x, .int qv] rfl (Zx.rt bI_rt) ?_
  refine x_iload_n dX2_isNode_0 rfl ?_
  refine x_if_lt 16 dX2_isNode_1 (by decide) (fun c1 => ?_) (fun c1 => ?_)
  · have hz : bI (pN nn qv) = 0 := bI_f (fun z => z.1 c1)
    refine x_iconst (v := (0)) dX2_isNode_16 (by decide +kernel) ?_
    exact x_ri dX2_isNode_17 hz.symm
  · obtain ⟨j, hj, rfl⟩ := nI_of c1
    refine x_iload_n dX2_isNode_4 rfl ?_
    refine x_aload_n dX2_isNode_5 rfl ?_
    refine x_geti dX2_isNode_6 fl_X2_29 cw.k rfl ?_
    refine x_icmp_ge 16 dX2_isNode_9 (by decide) (fun c9 => ?_) (fun c9 => ?_)
    · have c9 : nn ≤ j := by rw [h5] at c9; exact (nI_leI (by omega) hj).mp c9
      have hz : bI (pN nn (nI j)) = 0 := bI_f (fun z => absurd ((pN_nI (by omega)).mp z) (by omega))
      refine x_iconst (v := (0)) dX2_isNode_16 (by decide +kernel) ?_
      exact x_ri dX2_isNode_17 hz.symm
    · have c9 : ¬ nn ≤ j := fun z => c9 (by rw [h5]; exact nI_le z hj)
      have hz : bI (pN nn (nI j)) = 1 := bI_t ((pN_nI (by omega)).mpr (by omega))
      refine x_iconst (v := (1)) dX2_isNode_12 (by decide +kernel) ?_
      refine x_goto 17 dX2_isNode_13 (by decide) ?_
      exact x_ri dX2_isNode_17 hz.symm
set_option maxHeartbeats 4000000 in
theorem c_X2_isColumn (l : Launch) (D : va_G) {K N : Nat → Nat} {R : Nat → Nat → Nat} {I : Nat → Nat → Int32} {J : Nat → Nat → Int64} {sz : Nat} (qv : Int32) : XM l D yX2_isColumn cX2_isColumn 1 (some .boolean) 0 0 0 [.int qv] K N R I J sz (Zx (some (.int (bI (¬ qv < 0 ∧ ¬ 1 < qv)))) K N R I J sz) := by
  refine XM.of (own := RX2) (nm := "isColumn") (by decide +kernel) rfl rfl (by simp [xla, Value.category]) [.int qv] rfl (Zx.rt bI_rt) ?_
  refine x_iload_n dX2_isColumn_0 rfl ?_
  refine x_if_lt 13 dX2_isColumn_1 (by decide) (fun c1 => ?_) (fun c1 => ?_)
  · refine x_iconst (v := (0)) dX2_isColumn_13 (by decide +kernel) ?_
    exact x_ri dX2_isColumn_14 (by simp [bI, *])
  · refine x_iload_n dX2_isColumn_4 rfl ?_
    refine x_iconst (v := (2)) dX2_isColumn_5 (by decide +kernel) ?_
    refine x_icmp_ge 13 dX2_isColumn_6 (by decide) (fun c6 => ?_) (fun c6 => ?_)
    · have c6 : 1 < qv := Int32.lt_of_lt_of_le (by decide) c6
      refine x_iconst (v := (0)) dX2_isColumn_13 (by decide +kernel) ?_
      exact x_ri dX2_isColumn_14 (by simp [bI, *])
    · have c6 : ¬ 1 < qv := fun z => c6 (by rw [Int32.lt_iff_toInt_lt] at z; rw [Int32.le_iff_toInt_le]; exact z)
      refine x_iconst (v := (1)) dX2_isColumn_9 (by decide +kernel) ?_
      refine x_goto 14 dX2_isColumn_10 (by decide) ?_
      exact x_ri dX2_isColumn_14 (by simp [bI, *])
set_option maxHeartbeats 4000000 in
theorem c_X2_everMade (l : Launch) (D : va_G) {K N : Nat → Nat} {R : Nat → Nat → Nat} {I : Nat → Nat → Int32} {J : Nat → Nat → Int64} {sz : Nat} {x : Nat} (cw : CW x K N R) {nv : Nat} (h8 : I x 8 = nI nv) (hnv : nv ≤ 60) (qv : Int32) : XM l D yX2_everMade cX2_everMade 2 (some (.object "VersionChunks$Version")) 0 0 0 [.ref x, .int qv] K N R I J sz (Zx (some (.ref (if pN nv qv then R (x + 1) qv.toNatClampNeg else 0))) K N R I J sz) := by
  refine XM.of (own := RX2) (nm := "everMade") (by decide +kernel) rfl rfl (by simp [xla, Value.category]) [.ref x, .int qv] rfl (Zx.rt ⟨_, rfl⟩) ?_
  refine x_iload_n dX2_everMade_0 rfl ?_
  refine x_if_lt 18 dX2_everMade_1 (by decide) (fun c1 => ?_) (fun c1 => ?_)
  · have hz : (if pN nv qv then R (x + 1) qv.toNatClampNeg else 0) = 0 := if_neg (fun z => z.1 c1)
    refine x_null dX2_everMade_18 ?_
    refine x_goto 28 dX2_everMade_19 (by decide) ?_
    exact x_ra dX2_everMade_28 hz.symm
  · obtain ⟨j, hj, rfl⟩ := nI_of c1
    refine x_iload_n dX2_everMade_4 rfl ?_
    refine x_aload_n dX2_everMade_5 rfl ?_
    refine x_geti dX2_everMade_6 fl_X2_45 cw.k rfl ?_
    refine x_icmp_ge 18 dX2_everMade_9 (by decide) (fun c9 => ?_) (fun c9 => ?_)
    · have c9 : nv ≤ j := by rw [h8] at c9; exact (nI_leI (by omega) hj).mp c9
      have hz : (if pN nv (nI j) then R (x + 1) (nI j).toNatClampNeg else 0) = 0 := if_neg (fun z => absurd ((pN_nI (by omega)).mp z) (by omega))
      refine x_null dX2_everMade_18 ?_
      refine x_goto 28 dX2_everMade_19 (by decide) ?_
      exact x_ra dX2_everMade_28 hz.symm
    · have c9 : ¬ nv ≤ j := fun z => c9 (by rw [h8]; exact nI_le z hj)
      have hz : (if pN nv (nI j) then R (x + 1) (nI j).toNatClampNeg else 0) = R (x + 1) j := by rw [if_pos ((pN_nI (by omega)).mpr (by omega)), nI_clamp hj]
      refine x_iload_n dX2_everMade_12 rfl ?_
      refine x_bipush (v := (nI 60)) dX2_everMade_13 (by decide +kernel) ?_
      refine x_icmp_lt 22 dX2_everMade_15 (by decide) (fun c15 => ?_) (fun c15 => ?_)
      · refine x_aload_n dX2_everMade_22 rfl ?_
        refine x_getq dX2_everMade_23 fl_X2_11 cw.k cw.r0 rfl ?_
        refine x_iload_n dX2_everMade_26 rfl ?_
        refine x_aald (j) dX2_everMade_27 cw.k0 cw.n0 rfl (by omega) (by decide) ?_
        exact x_ra dX2_everMade_28 hz.symm
      · exact absurd (nI_lt (by omega) (by omega)) c15
set_option maxHeartbeats 4000000 in
theorem c_X2_living (l : Launch) (D : va_G) {K N : Nat → Nat} {R : Nat → Nat → Nat} {I : Nat → Nat → Int32} {J : Nat → Nat → Int64} {sz : Nat} {x : Nat} (cw : CW x K N R) {nv : Nat} (h8 : I x 8 = nI nv) (hnv : nv ≤ 60) (hvv : ∀ i, i < nv → R (x + 1) i ≠ 0) (qv : Int32) : XM l D yX2_living cX2_living 3 (some (.object "VersionChunks$Version")) 1 0 0 [.ref x, .int qv] K N R I J sz (Zx (some (.ref (if pN nv qv ∧ I (R (x + 1) qv.toNatClampNeg) 3 = 0 then R (x + 1) qv.toNatClampNeg else 0))) K N R I J sz) := by
  refine XM.of (own := RX2) (nm := "living") (by decide +kernel) rfl rfl (by simp [xla, Value.category]) [.ref x, .int qv, .null] rfl (Zx.rt ⟨_, rfl⟩) ?_
  refine x_aload_n dX2_living_0 rfl ?_
  refine x_iload_n dX2_living_1 rfl ?_
  refine x_eV (c_X2_everMade l D cw h8 hnv _) dX2_living_2 lk_X2_182 im_X2_everMade se_X2_everMade cd_X2_everMade (by decide) cw.k vcX2 rfl (by decide) rfl (by first | decide | simp [Value.category]) ?_
  refine x_astore_n dX2_living_5 (by decide) rfl ?_
  refine x_aload_n dX2_living_6 rfl ?_
  refine x_ifnull 17 dX2_living_7 (by decide) (fun c7 => ?_) (fun c7 => ?_)
  · have hp : ¬ pN nv qv := fun z => by
      rw [if_pos z] at c7
      obtain ⟨j, hj, rfl⟩ := pN_ex z
      rw [nI_clamp (by omega)] at c7
      exact hvv j hj c7
    rw [if_neg hp]
    have hz : (if pN nv qv ∧ I (R (x + 1) qv.toNatClampNeg) 3 = 0 then R (x + 1) qv.toNatClampNeg else 0) = 0 := if_neg (fun z => hp z.1)
    refine x_null dX2_living_17 ?_
    refine x_goto 22 dX2_living_18 (by decide) ?_
    exact x_ra dX2_living_22 hz.symm
  · have hp : pN nv qv := by
      by_cases z : pN nv qv
      · exact z
      · exact absurd (if_neg z) c7
    rw [if_pos hp]
    obtain ⟨j, hj, rfl⟩ := pN_ex hp
    simp only [nI_clamp (show j < 2 ^ 31 by omega)]
    have hw := cw.wv (show j < 60 by omega) (hvv j hj)
    refine x_aload_n dX2_living_10 rfl ?_
    refine x_geti dX2_living_11 fl_X2_175 hw.k rfl ?_
    refine x_if_eq 21 dX2_living_14 (by decide) (fun c14 => ?_) (fun c14 => ?_)
    · have hz : (if pN nv (nI j) ∧ I (R (x + 1) j) 3 = 0 then R (x + 1) j else 0) = R (x + 1) j := if_pos ⟨hp, c14⟩
      refine x_aload_n dX2_living_21 rfl ?_
      exact x_ra dX2_living_22 hz.symm
    · have hz : (if pN nv (nI j) ∧ I (R (x + 1) j) 3 = 0 then R (x + 1) j else 0) = 0 := if_neg (fun z => c14 z.2)
      refine x_null dX2_living_17 ?_
      refine x_goto 22 dX2_living_18 (by decide) ?_
      exact x_ra dX2_living_22 hz.symm
set_option maxHeartbeats 4000000 in
theorem c_X2_parentOf (l : Launch) (D : va_G) {K N : Nat → Nat} {R : Nat → Nat → Nat} {I : Nat → Nat → Int32} {J : Nat → Nat → Int64} {sz : Nat} {x : Nat} (cw : CW x K N R) {nv : Nat} (h8 : I x 8 = nI nv) (hnv : nv ≤ 60) (hvv : ∀ i, i < nv → R (x + 1) i ≠ 0) {j : Nat} (hj : j < nv) : XM l D yX2_parentOf cX2_parentOf 3 (some .int) 1 0 0 [.ref x, .int (nI j)] K N R I J sz (Zx (some (.int (I (R (x + 1) j) 1))) K N R I J sz) := by
  refine XM.of (own := RX2) (nm := "parentOf") (by decide +kernel) rfl rfl (by simp [xla, Value.category]) [.ref x, .int (nI j), .null] rfl (Zx.rt ⟨_, rfl⟩) ?_
  refine x_aload_n dX2_parentOf_0 rfl ?_
  refine x_iload_n dX2_parentOf_1 rfl ?_
  refine x_eV (c_X2_everMade l D cw h8 hnv _) dX2_parentOf_2 lk_X2_182 im_X2_everMade se_X2_everMade cd_X2_everMade (by decide) cw.k vcX2 rfl (by decide) rfl (by first | decide | simp [Value.category]) ?_
  rw [if_pos ((pN_nI (by omega)).mpr hj), nI_clamp (show j < 2 ^ 31 by omega)]
  have hw := cw.wv (show j < 60 by omega) (hvv j hj)
  refine x_astore_n dX2_parentOf_5 (by decide) rfl ?_
  refine x_aload_n dX2_parentOf_6 rfl ?_
  refine x_ifnonnull 14 dX2_parentOf_7 (by decide) (fun c7 => ?_) (fun c7 => ?_)
  · refine x_aload_n dX2_parentOf_14 rfl ?_
    refine x_geti dX2_parentOf_15 fl_X2_185 hw.k rfl ?_
    exact x_ri dX2_parentOf_18 rfl
  · exact absurd c7 (hvv j hj)
set_option maxHeartbeats 4000000 in
theorem c_X2_chunkOfNode (l : Launch) (D : va_G) {K N : Nat → Nat} {R : Nat → Nat → Nat} {I : Nat → Nat → Int32} {J : Nat → Nat → Int64} {sz : Nat} {x : Nat} (cw : CW x K N R) {s n : Nat} (h6 : I x 6 = nI s) (hs0 : 0 < s) (hs : s ≤ 64) (hn : n < 64) : XM l D yX2_chunkOfNode cX2_chunkOfNode 2 (some .int) 0 0 0 [.ref x, .int (nI n)] K N R I J sz (Zx (some (.int (nI (n / s)))) K N R I J sz) := by
  refine XM.of (own := RX2) (nm := "chunkOfNode") (by decide +kernel) rfl rfl (by simp [xla, Value.category]) [.ref x, .int (nI n)] rfl (Zx.rt ⟨_, rfl⟩) ?_
  refine x_aload_n dX2_chunkOfNode_0 rfl ?_
  refine x_geti dX2_chunkOfNode_1 fl_X2_25 cw.k rfl ?_
  refine x_iconst (v := (1)) dX2_chunkOfNode_4 (by decide +kernel) ?_
  refine x_icmp_ge 12 dX2_chunkOfNode_5 (by decide) (fun c5 => ?_) (fun c5 => ?_)
  · refine x_iload_n dX2_chunkOfNode_12 rfl ?_
    refine x_aload_n dX2_chunkOfNode_13 rfl ?_
    refine x_geti dX2_chunkOfNode_14 fl_X2_25 cw.k rfl ?_
    refine x_idiv dX2_chunkOfNode_17 (by rw [h6]; exact nI_ne0 hs0 (by omega)) ?_
    exact x_ri dX2_chunkOfNode_18 (by rw [h6, idiv_n hn hs0 hs])
  · exact absurd (by rw [h6]; exact (show nI 1 ≤ nI s from nI_le hs0 (by omega))) c5
set_option maxHeartbeats 4000000 in
theorem c_X2_nextChunk (l : Launch) (D : va_G) {K N : Nat → Nat} {R : Nat → Nat → Nat} {I : Nat → Nat → Int32} {J : Nat → Nat → Int64} {sz : Nat} {x : Nat} (cw : CW x K N R)  : XM l D yX2_nextChunk cX2_nextChunk 2 (some .int) 0 0 0 [.ref x] K N R I J sz (Zx (some (.int (I x 10))) K N R (va_up I x (va_up (I x) 10 (I x 10 + 1))) J sz) := by
  refine XM.of (own := RX2) (nm := "nextChunk") (by decide +kernel) rfl rfl (by simp [xla, Value.category]) [.ref x, .null] rfl (Zx.rt ⟨_, rfl⟩) ?_
  refine x_aload_n dX2_nextChunk_0 rfl ?_
  refine x_geti dX2_nextChunk_1 fl_X2_51 cw.k rfl ?_
  refine x_istore_n dX2_nextChunk_4 (by decide) rfl ?_
  refine x_aload_n dX2_nextChunk_5 rfl ?_
  refine x_dup dX2_nextChunk_6 rfl ?_
  refine x_geti dX2_nextChunk_7 fl_X2_51 cw.k rfl ?_
  refine x_iconst (v := (1)) dX2_nextChunk_10 (by decide +kernel) ?_
  refine x_iadd dX2_nextChunk_11 ?_
  refine x_puti dX2_nextChunk_12 fl_X2_51 cw.k rfl (Or.inl rfl) ?_
  refine x_iload_n dX2_nextChunk_15 rfl ?_
  exact x_ri dX2_nextChunk_16 rfl
set_option maxHeartbeats 4000000 in
theorem c_X1_leads (l : Launch) (D : va_G) {K N : Nat → Nat} {R : Nat → Nat → Nat} {I : Nat → Nat → Int32} {J : Nat → Nat → Int64} {sz : Nat} {v : Nat} (vw : VW v K N R) {n t : Nat} (hn : n < 64) (ht : t < 64) : XM l D yX1_leads cX1_leads 3 (some .boolean) 1 0 0 [.ref v, .int (nI n), .int (nI t)] K N R I J sz (Zx (some (.int (bI (bt (J (v + 1) n) t = true)))) K N R I J sz) := by
  refine XM.of (own := RX1) (nm := "leads") (by decide +kernel) rfl rfl (by simp [xla, Value.category]) [.ref v, .int (nI n), .int (nI t)] rfl (Zx.rt bI_rt) ?_
  refine x_aload_n dX1_leads_0 rfl ?_
  refine x_getq dX1_leads_1 fl_X1_9 vw.k vw.r4 rfl ?_
  refine x_iload_n dX1_leads_4 rfl ?_
  refine x_lald (n) dX1_leads_5 vw.k4 vw.n4 rfl (by omega) (by decide) ?_
  refine x_iload_n dX1_leads_6 rfl ?_
  refine x_eS (c_X2_isBitSet l D ht) dX1_leads_7 lk_X1_22 st_X2_isBitSet cd_X2_isBitSet rfl (by decide) rfl (by first | decide | simp [Value.category]) ?_
  exact x_ri dX1_leads_10 rfl
set_option maxHeartbeats 4000000 in
theorem c_X1_numberAt (l : Launch) (D : va_G) {K N : Nat → Nat} {R : Nat → Nat → Nat} {I : Nat → Nat → Int32} {J : Nat → Nat → Int64} {sz : Nat} {v : Nat} (vw : VW v K N R) {n c : Nat} (hn : n < 64) (hc : c < 2) : XM l D yX1_numberAt cX1_numberAt 3 (some .long) 0 0 0 [.ref v, .int (nI n), .int (nI c)] K N R I J sz (Zx (some (.long (J (v + 2) (n * 2 + c)))) K N R I J sz) := by
  refine XM.of (own := RX1) (nm := "numberAt") (by decide +kernel) rfl rfl (by simp [xla, Value.category]) [.ref v, .int (nI n), .int (nI c)] rfl (Zx.rt ⟨_, rfl⟩) ?_
  refine x_aload_n dX1_numberAt_0 rfl ?_
  refine x_getq dX1_numberAt_1 fl_X1_15 vw.k vw.r5 rfl ?_
  refine x_iload_n dX1_numberAt_4 rfl ?_
  refine x_iconst (v := (nI 2)) dX1_numberAt_5 (by decide +kernel) ?_
  refine x_imul dX1_numberAt_6 ?_
  refine x_iload_n dX1_numberAt_7 rfl ?_
  refine x_iadd dX1_numberAt_8 ?_
  refine x_lald (n * 2 + c) dX1_numberAt_9 vw.k5 vw.n5 (by rw [pk_mul, nI_add]) (by omega) (by decide) ?_
  exact x_rl dX1_numberAt_10 rfl
