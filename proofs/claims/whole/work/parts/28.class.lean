/-! The class: shared, rows told, arcs, ancestors -/
set_option maxHeartbeats 4000000 in
theorem c_X2_shared (l : Launch) (D : va_G) {K N : Nat → Nat} {R : Nat → Nat → Nat} {I : Nat → Nat → Int32} {J : Nat → Nat → Int64} {sz : Nat} {x : Nat} (cw : CW x K N R) {nv : Nat} (h8 : I x 8 = nI nv) (hnv : nv ≤ 60) (hvv : ∀ i, i < nv → R (x + 1) i ≠ 0) {nc : Nat} (h7 : I x 7 = nI nc) (hnc : nc ≤ 64) (qv qa : Int32) : XM l D yX2_shared cX2_shared 7 (some .int) 2 0 0 [.ref x, .int qv, .int qa] K N R I J sz (Zx (some (.int (if pL R I x nv qv ∧ pL R I x nv qa then nI (cntP (fun k => I (R (x + 1) qv.toNatClampNeg + 3) k == I (R (x + 1) qa.toNatClampNeg + 3) k) nc) else -1))) K N R I J sz) := by
  refine XM.of (own := RX2) (nm := "shared") (by decide +kernel) rfl rfl (by simp [xla, Value.category]) [.ref x, .int qv, .int qa, .null, .null, .null, .null] rfl (Zx.rt ⟨_, rfl⟩) ?_
  refine x_aload_n dX2_shared_0 rfl ?_
  refine x_iload_n dX2_shared_1 rfl ?_
  refine x_eV (c_X2_living l D cw h8 hnv hvv _) dX2_shared_2 lk_X2_67 im_X2_living se_X2_living cd_X2_living (by decide) cw.k vcX2 rfl (by decide) rfl (by first | decide | simp [Value.category]) ?_
  refine x_astore_n dX2_shared_5 (by decide) rfl ?_
  refine x_aload_n dX2_shared_6 rfl ?_
  refine x_iload_n dX2_shared_7 rfl ?_
  refine x_eV (c_X2_living l D cw h8 hnv hvv _) dX2_shared_8 lk_X2_67 im_X2_living se_X2_living cd_X2_living (by decide) cw.k vcX2 rfl (by decide) rfl (by first | decide | simp [Value.category]) ?_
  refine x_astore dX2_shared_11 (by decide) rfl ?_
  refine x_aload_n dX2_shared_13 rfl ?_
  refine x_ifnull 22 dX2_shared_14 (by decide) (fun c14 => ?_) (fun c14 => ?_)
  · have c14 := liv_n (fun z => hvv _ z.1.2) c14
    have hG : ¬ (pL R I x nv qv ∧ pL R I x nv qa) := fun z => c14 z.1
    refine x_iconst (v := (-1)) dX2_shared_22 (by decide +kernel) ?_
    exact x_ri dX2_shared_23 (by rw [if_neg hG])
  · have hv : pL R I x nv qv := liv_s c14
    simp only [if_pos hv]
    obtain ⟨vj, hbv, rfl⟩ := pN_ex hv.1
    have hcv : (nI vj).toNatClampNeg = vj := nI_clamp (by omega)
    simp only [hcv]
    have hw := cw.wv (show vj < 60 by omega) (hvv vj hbv)
    refine x_aload dX2_shared_17 rfl ?_
    refine x_ifnonnull 24 dX2_shared_19 (by decide) (fun c19 => ?_) (fun c19 => ?_)
    · have ha : pL R I x nv qa := liv_s c19
      simp only [if_pos ha]
      obtain ⟨aj, hba, rfl⟩ := pN_ex ha.1
      have hca : (nI aj).toNatClampNeg = aj := nI_clamp (by omega)
      simp only [hca]
      have hwa := cw.wv (show aj < 60 by omega) (hvv aj hba)
      have loop : ∀ (t k : Nat), t + k = nc → XW l D (fun _ => True) RX2 "shared" cX2_shared 7 2 0 0 K sz (Zx (some (.int (if pL R I x nv (nI vj) ∧ pL R I x nv (nI aj) then nI (cntP (fun k => I (R (x + 1) vj + 3) k == I (R (x + 1) aj + 3) k) nc) else -1))) K N R I J sz) 30 [.ref x, .int (nI vj), .int (nI aj), .ref (R (x + 1) vj), .ref (R (x + 1) aj), .int (nI (cntP (fun k => I (R (x + 1) vj + 3) k == I (R (x + 1) aj + 3) k) k)), .int (nI k)] [] K N R (I) (J) sz 0 0 := by
        intro t
        induction t with
        | zero =>
          intro k hk
          refine x_iload dX2_shared_30 rfl ?_
          refine x_aload_n dX2_shared_32 rfl ?_
          refine x_geti dX2_shared_33 fl_X2_32 cw.k rfl ?_
          refine x_icmp_ge 66 dX2_shared_36 (by decide) (fun c36 => ?_) (fun c36 => ?_)
          · obtain rfl : k = nc := by omega
            refine x_iload dX2_shared_66 rfl ?_
            exact x_ri dX2_shared_68 (by rw [if_pos ⟨hv, ha⟩])
          · exact absurd (by rw [h7]; exact nI_le (by omega) (by omega)) c36
        | succ t ih =>
          intro k hk
          refine x_iload dX2_shared_30 rfl ?_
          refine x_aload_n dX2_shared_32 rfl ?_
          refine x_geti dX2_shared_33 fl_X2_32 cw.k rfl ?_
          refine x_icmp_ge 66 dX2_shared_36 (by decide) (fun c36 => ?_) (fun c36 => ?_)
          · rw [h7] at c36; exact absurd c36 (nI_ge (by omega) (by omega))
          · refine x_aload_n dX2_shared_39 rfl ?_
            refine x_getq dX2_shared_40 fl_X2_90 hw.k hw.r6 rfl ?_
            refine x_iload dX2_shared_43 rfl ?_
            refine x_iald (k) dX2_shared_45 hw.k6 hw.n6 rfl (by omega) (by decide) ?_
            refine x_aload dX2_shared_46 rfl ?_
            refine x_getq dX2_shared_48 fl_X2_90 hwa.k hwa.r6 rfl ?_
            refine x_iload dX2_shared_51 rfl ?_
            refine x_iald (k) dX2_shared_53 hwa.k6 hwa.n6 rfl (by omega) (by decide) ?_
            refine x_icmp_ne 60 dX2_shared_54 (by decide) (fun c54 => ?_) (fun c54 => ?_)
            · refine x_iinc dX2_shared_60 rfl rfl (by decide) rfl ?_
              refine x_goto 30 dX2_shared_63 (by decide) ?_
              exact x_eql (by show [_, _, _, _, _, Value.int _, Value.int _] = _; simp [cntP, c54, nI_1]) (ih (k + 1) (by omega))
            · refine x_iinc dX2_shared_57 rfl rfl (by decide) rfl ?_
              refine x_iinc dX2_shared_60 rfl rfl (by decide) rfl ?_
              refine x_goto 30 dX2_shared_63 (by decide) ?_
              exact x_eql (by show [_, _, _, _, _, Value.int _, Value.int _] = _; simp [cntP, c54, nI_1]) (ih (k + 1) (by omega))
      refine x_iconst (v := (0)) dX2_shared_24 (by decide +kernel) ?_
      refine x_istore dX2_shared_25 (by decide) rfl ?_
      refine x_iconst (v := (0)) dX2_shared_27 (by decide +kernel) ?_
      refine x_istore dX2_shared_28 (by decide) rfl ?_
      exact x_eql rfl (loop nc 0 rfl)
    · have c19 := liv_n (fun z => hvv _ z.1.2) c19
      have hG : ¬ (pL R I x nv (nI vj) ∧ pL R I x nv qa) := fun z => c19 z.2
      refine x_iconst (v := (-1)) dX2_shared_22 (by decide +kernel) ?_
      exact x_ri dX2_shared_23 (by rw [if_neg hG])
theorem rem66 {q : Nat} (hq : q < 8448) : nI q - nI q / nI 66 * nI 66 = nI (q % 66) := pk_rem (by omega) (by omega) (by omega)
set_option maxHeartbeats 4000000 in
theorem c_X2_tellItem (l : Launch) (D : va_G) {K N : Nat → Nat} {R : Nat → Nat → Nat} {I : Nat → Nat → Int32} {J : Nat → Nat → Int64} {sz : Nat} {q : Nat} (hq : q < 4224) (qw : Int32) : XM l D yX2_tellItem cX2_tellItem 3 (some .int) 0 0 0 [.int (nI q), .int qw] K N R I J sz (Zx (some (.int (if (¬ qw < 0 ∧ ¬ 1 < qw) then (if qw = 0 then nI (q / 66) else tN (q % 66)) else -99999999))) K N R I J sz) := by
  refine XM.of (own := RX2) (nm := "tellItem") (by decide +kernel) rfl rfl (by simp [xla, Value.category]) [.int (nI q), .int qw, .null] rfl (Zx.rt ⟨_, rfl⟩) ?_
  refine x_iload_n dX2_tellItem_0 rfl ?_
  refine x_if_lt 13 dX2_tellItem_1 (by decide) (fun c1 => ?_) (fun c1 => ?_)
  · exact absurd c1 (nI_pos (by omega))
  · refine x_iload_n dX2_tellItem_4 rfl ?_
    refine x_if_lt 13 dX2_tellItem_5 (by decide) (fun c5 => ?_) (fun c5 => ?_)
    · have hz : ¬ (¬ qw < 0 ∧ ¬ 1 < qw) := fun z => z.1 c5
      refine x_ldc dX2_tellItem_13 ki_X2_109 ?_
      exact x_ri dX2_tellItem_15 (by rw [if_neg hz])
    · refine x_iload_n dX2_tellItem_8 rfl ?_
      refine x_iconst (v := (1)) dX2_tellItem_9 (by decide +kernel) ?_
      refine x_icmp_le 16 dX2_tellItem_10 (by decide) (fun c10 => ?_) (fun c10 => ?_)
      · have hz : (¬ qw < 0 ∧ ¬ 1 < qw) := ⟨c5, Int32.not_lt.mpr c10⟩
        refine x_iload_n dX2_tellItem_16 rfl ?_
        refine x_if_ne 25 dX2_tellItem_17 (by decide) (fun c17 => ?_) (fun c17 => ?_)
        · refine x_iload_n dX2_tellItem_25 rfl ?_
          refine x_bipush (v := (nI 66)) dX2_tellItem_26 (by decide +kernel) ?_
          refine x_irem dX2_tellItem_28 (by decide +kernel) ?_
          rw [rem66 (by omega)]
          refine x_istore_n dX2_tellItem_29 (by decide) rfl ?_
          refine x_iload_n dX2_tellItem_30 rfl ?_
          refine x_bipush (v := (nI 64)) dX2_tellItem_31 (by decide +kernel) ?_
          refine x_icmp_ge 40 dX2_tellItem_33 (by decide) (fun c33 => ?_) (fun c33 => ?_)
          · have c33 : 64 ≤ q % 66 := (nI_leI (by omega) (by omega)).mp c33
            have hr : -1 - (nI (q % 66) - nI 64) = tN (q % 66) := by rw [tN, if_neg (by omega), pk_sub c33]
            refine x_iconst (v := (-1)) dX2_tellItem_40 (by decide +kernel) ?_
            refine x_iload_n dX2_tellItem_41 rfl ?_
            refine x_bipush (v := (nI 64)) dX2_tellItem_42 (by decide +kernel) ?_
            refine x_isub dX2_tellItem_44 ?_
            refine x_isub dX2_tellItem_45 ?_
            exact x_ri dX2_tellItem_46 (by rw [if_pos hz, if_neg c17, ← hr])
          · have c33 : q % 66 < 64 := by
              rcases Nat.lt_or_ge (q % 66) 64 with z | z
              · exact z
              · exact absurd (nI_le z (by omega)) c33
            have hr : nI (q % 66) = tN (q % 66) := (tN_a c33).symm
            refine x_iload_n dX2_tellItem_36 rfl ?_
            refine x_goto 46 dX2_tellItem_37 (by decide) ?_
            exact x_ri dX2_tellItem_46 (by rw [if_pos hz, if_neg c17, ← hr])
        · refine x_iload_n dX2_tellItem_20 rfl ?_
          refine x_bipush (v := (nI 66)) dX2_tellItem_21 (by decide +kernel) ?_
          refine x_idiv dX2_tellItem_23 (by decide +kernel) ?_
          exact x_ri dX2_tellItem_24 (by rw [if_pos hz, if_pos c17, pk_div (a := q) (d := 66) (by omega) (by omega) (by omega)])
      · have hz : ¬ (¬ qw < 0 ∧ ¬ 1 < qw) := fun z => z.2 (Int32.not_le.mp c10)
        refine x_ldc dX2_tellItem_13 ki_X2_109 ?_
        exact x_ri dX2_tellItem_15 (by rw [if_neg hz])
set_option maxHeartbeats 4000000 in
theorem c_X2_tellItemN (l : Launch) (D : va_G) {K N : Nat → Nat} {R : Nat → Nat → Nat} {I : Nat → Nat → Int32} {J : Nat → Nat → Int64} {sz : Nat} (qw : Int32) : XM l D yX2_tellItem cX2_tellItem 3 (some .int) 0 0 0 [.int (-1), .int qw] K N R I J sz (Zx (some (.int (-99999999))) K N R I J sz) := by
  refine XM.of (own := RX2) (nm := "tellItem") (by decide +kernel) rfl rfl (by simp [xla, Value.category]) [.int (-1), .int qw, .null] rfl (Zx.rt ⟨_, rfl⟩) ?_
  refine x_iload_n dX2_tellItem_0 rfl ?_
  refine x_if_lt 13 dX2_tellItem_1 (by decide) (fun c1 => ?_) (fun c1 => ?_)
  · refine x_ldc dX2_tellItem_13 ki_X2_109 ?_
    exact x_ri dX2_tellItem_15 rfl
  · exact absurd (by decide) c1
set_option maxHeartbeats 4000000 in
theorem c_X2_row (l : Launch) (D : va_G) {K N : Nat → Nat} {R : Nat → Nat → Nat} {I : Nat → Nat → Int32} {J : Nat → Nat → Int64} {sz : Nat} {x : Nat} (cw : CW x K N R) (hm : I (x + 2) 0 = nI (fL (J (x + 2 + 1)) (J (x + 2 + 2)) 64).length) (hb : ∀ j q : Nat, ((fL (J (x + 2 + 1)) (J (x + 2 + 2)) 64))[j]? = some q → q < 4224) (qk qw : Int32) : XM l D yX2_row cX2_row 3 (some .int) 3 0 0 [.ref x, .int qk, .int qw] K N R I J sz (Zx (some (.int (if pN (fL (J (x + 2 + 1)) (J (x + 2 + 2)) 64).length qk ∧ (¬ qw < 0 ∧ ¬ 1 < qw) then (if qw = 0 then nI ((((fL (J (x + 2 + 1)) (J (x + 2 + 2)) 64))[qk.toNatClampNeg]?).getD 0 / 66) else tN ((((fL (J (x + 2 + 1)) (J (x + 2 + 2)) 64))[qk.toNatClampNeg]?).getD 0 % 66)) else -99999999))) K N R I J sz) := by
  refine XM.of (own := RX2) (nm := "row") (by decide +kernel) rfl rfl (by simp [xla, Value.category]) [.ref x, .int qk, .int qw] rfl (Zx.rt ⟨_, rfl⟩) ?_
  have hf := c_X0_find l D (sz := sz) cw.wu hm qk
  by_cases hp : pN (fL (J (x + 2 + 1)) (J (x + 2 + 2)) 64).length qk
  · simp only [if_pos hp] at hf
    obtain ⟨j, hj, rfl⟩ := pN_ex hp
    have hq : ((fL (J (x + 2 + 1)) (J (x + 2 + 2)) 64))[(nI j).toNatClampNeg]? = some ((((fL (J (x + 2 + 1)) (J (x + 2 + 2)) 64))[(nI j).toNatClampNeg]?).getD 0) := by rw [List.getElem?_eq_getElem hp.2]; rfl
    have hq2 := hb _ _ hq
    refine x_aload_n dX2_row_0 rfl ?_
    refine x_getq dX2_row_1 fl_X2_18 cw.k cw.r1 rfl ?_
    refine x_iload_n dX2_row_4 rfl ?_
    refine x_eV (hf) dX2_row_5 lk_X2_142 im_X0_find se_X0_find cd_X0_find (by decide) cw.wu.k vcX0 rfl (by decide) rfl (by first | decide | simp [Value.category]) ?_
    refine x_iload_n dX2_row_8 rfl ?_
    refine x_eS (c_X2_tellItem l D hq2 _) dX2_row_9 lk_X2_145 st_X2_tellItem cd_X2_tellItem rfl (by decide) rfl (by first | decide | simp [Value.category]) ?_
    exact x_ri dX2_row_12 (by
      by_cases hw : (¬ qw < 0 ∧ ¬ 1 < qw)
      · have hpw := And.intro hp hw
        rw [if_pos hw, if_pos hpw]
      · rw [if_neg hw, if_neg (fun z => hw z.2)])
  · simp only [if_neg hp] at hf
    refine x_aload_n dX2_row_0 rfl ?_
    refine x_getq dX2_row_1 fl_X2_18 cw.k cw.r1 rfl ?_
    refine x_iload_n dX2_row_4 rfl ?_
    refine x_eV (hf) dX2_row_5 lk_X2_142 im_X0_find se_X0_find cd_X0_find (by decide) cw.wu.k vcX0 rfl (by decide) rfl (by first | decide | simp [Value.category]) ?_
    refine x_iload_n dX2_row_8 rfl ?_
    refine x_eS (c_X2_tellItemN l D _) dX2_row_9 lk_X2_145 st_X2_tellItem cd_X2_tellItem rfl (by decide) rfl (by first | decide | simp [Value.category]) ?_
    exact x_ri dX2_row_12 (by rw [if_neg (fun z => hp z.1)])
set_option maxHeartbeats 4000000 in
theorem c_X2_conflict (l : Launch) (D : va_G) {K N : Nat → Nat} {R : Nat → Nat → Nat} {I : Nat → Nat → Int32} {J : Nat → Nat → Int64} {sz : Nat} {x : Nat} (cw : CW x K N R) (hm : I (x + 5) 0 = nI (fL (J (x + 5 + 1)) (J (x + 5 + 2)) 64).length) (hb : ∀ j q : Nat, ((fL (J (x + 5 + 1)) (J (x + 5 + 2)) 64))[j]? = some q → q < 4224) (qk qw : Int32) : XM l D yX2_conflict cX2_conflict 3 (some .int) 3 0 0 [.ref x, .int qk, .int qw] K N R I J sz (Zx (some (.int (if pN (fL (J (x + 5 + 1)) (J (x + 5 + 2)) 64).length qk ∧ (¬ qw < 0 ∧ ¬ 1 < qw) then (if qw = 0 then nI ((((fL (J (x + 5 + 1)) (J (x + 5 + 2)) 64))[qk.toNatClampNeg]?).getD 0 / 66) else tN ((((fL (J (x + 5 + 1)) (J (x + 5 + 2)) 64))[qk.toNatClampNeg]?).getD 0 % 66)) else -99999999))) K N R I J sz) := by
  refine XM.of (own := RX2) (nm := "conflict") (by decide +kernel) rfl rfl (by simp [xla, Value.category]) [.ref x, .int qk, .int qw] rfl (Zx.rt ⟨_, rfl⟩) ?_
  have hf := c_X0_find l D (sz := sz) cw.wc hm qk
  by_cases hp : pN (fL (J (x + 5 + 1)) (J (x + 5 + 2)) 64).length qk
  · simp only [if_pos hp] at hf
    obtain ⟨j, hj, rfl⟩ := pN_ex hp
    have hq : ((fL (J (x + 5 + 1)) (J (x + 5 + 2)) 64))[(nI j).toNatClampNeg]? = some ((((fL (J (x + 5 + 1)) (J (x + 5 + 2)) 64))[(nI j).toNatClampNeg]?).getD 0) := by rw [List.getElem?_eq_getElem hp.2]; rfl
    have hq2 := hb _ _ hq
    refine x_aload_n dX2_conflict_0 rfl ?_
    refine x_getq dX2_conflict_1 fl_X2_22 cw.k cw.r2 rfl ?_
    refine x_iload_n dX2_conflict_4 rfl ?_
    refine x_eV (hf) dX2_conflict_5 lk_X2_142 im_X0_find se_X0_find cd_X0_find (by decide) cw.wc.k vcX0 rfl (by decide) rfl (by first | decide | simp [Value.category]) ?_
    refine x_iload_n dX2_conflict_8 rfl ?_
    refine x_eS (c_X2_tellItem l D hq2 _) dX2_conflict_9 lk_X2_145 st_X2_tellItem cd_X2_tellItem rfl (by decide) rfl (by first | decide | simp [Value.category]) ?_
    exact x_ri dX2_conflict_12 (by
      by_cases hw : (¬ qw < 0 ∧ ¬ 1 < qw)
      · have hpw := And.intro hp hw
        rw [if_pos hw, if_pos hpw]
      · rw [if_neg hw, if_neg (fun z => hw z.2)])
  · simp only [if_neg hp] at hf
    refine x_aload_n dX2_conflict_0 rfl ?_
    refine x_getq dX2_conflict_1 fl_X2_22 cw.k cw.r2 rfl ?_
    refine x_iload_n dX2_conflict_4 rfl ?_
    refine x_eV (hf) dX2_conflict_5 lk_X2_142 im_X0_find se_X0_find cd_X0_find (by decide) cw.wc.k vcX0 rfl (by decide) rfl (by first | decide | simp [Value.category]) ?_
    refine x_iload_n dX2_conflict_8 rfl ?_
    refine x_eS (c_X2_tellItemN l D _) dX2_conflict_9 lk_X2_145 st_X2_tellItem cd_X2_tellItem rfl (by decide) rfl (by first | decide | simp [Value.category]) ?_
    exact x_ri dX2_conflict_12 (by rw [if_neg (fun z => hp z.1)])
theorem arcL_pl {W : Nat → Int64} {nn f j : Nat} (hf : f < nn) (hj : j < cntP (bt (W f)) 64) : (arcL (fun f t => bt (W f) t) 64 nn)[(arcL (fun f t => bt (W f) t) 64 f).length + j]? = some (f, plc (W f) j) := by
  unfold arcL
  rw [lstP_get (q := fun f => (filP ((fun f t => bt (W f) t) f) 64).map (fun t => (f, t))) hf (by simp [filP_len]; exact hj)]
  show ((filP (bt (W f)) 64).map (fun t => (f, t)))[j]? = _
  rw [List.getElem?_map, plc_get hj]; rfl
theorem arcL_suc2 {W : Nat → Int64} {f : Nat} : (arcL (fun f t => bt (W f) t) 64 (f + 1)).length = (arcL (fun f t => bt (W f) t) 64 f).length + cntP (bt (W f)) 64 := by
  simp [arcL, lstP, filP_len]
set_option maxHeartbeats 4000000 in
theorem c_X2_arc (l : Launch) (D : va_G) {K N : Nat → Nat} {R : Nat → Nat → Nat} {I : Nat → Nat → Int32} {J : Nat → Nat → Int64} {sz : Nat} {x : Nat} (cw : CW x K N R) {nv : Nat} (h8 : I x 8 = nI nv) (hnv : nv ≤ 60) (hvv : ∀ i, i < nv → R (x + 1) i ≠ 0) {nn : Nat} (h5 : I x 5 = nI nn) (hnn : nn ≤ 64) (qv qk qw : Int32) : XM l D yX2_arc cX2_arc 8 (some .int) 2 0 0 [.ref x, .int qv, .int qk, .int qw] K N R I J sz (Zx (some (.int (if pL R I x nv qv ∧ (¬ qw < 0 ∧ ¬ 1 < qw) then ansL (arcL (fun f t => bt (J (R (x + 1) qv.toNatClampNeg + 1) f) t) 64 nn) qk qw else -1))) K N R I J sz) := by
  refine XM.of (own := RX2) (nm := "arc") (by decide +kernel) rfl rfl (by simp [xla, Value.category]) [.ref x, .int qv, .int qk, .int qw, .null, .null, .null, .null] rfl (Zx.rt ⟨_, rfl⟩) ?_
  refine x_aload_n dX2_arc_0 rfl ?_
  refine x_iload_n dX2_arc_1 rfl ?_
  refine x_eV (c_X2_living l D cw h8 hnv hvv _) dX2_arc_2 lk_X2_67 im_X2_living se_X2_living cd_X2_living (by decide) cw.k vcX2 rfl (by decide) rfl (by first | decide | simp [Value.category]) ?_
  refine x_astore dX2_arc_5 (by decide) rfl ?_
  refine x_aload dX2_arc_7 rfl ?_
  refine x_ifnull 21 dX2_arc_9 (by decide) (fun c9 => ?_) (fun c9 => ?_)
  · have c9 := liv_n (fun z => hvv _ z.1.2) c9
    have hG : ¬ (pL R I x nv qv ∧ (¬ qw < 0 ∧ ¬ 1 < qw)) := fun z => c9 z.1
    refine x_iconst (v := (-1)) dX2_arc_21 (by decide +kernel) ?_
    exact x_ri dX2_arc_22 (by rw [if_neg hG])
  · have hv : pL R I x nv qv := liv_s c9
    simp only [if_pos hv]
    obtain ⟨vj, hbv, rfl⟩ := pN_ex hv.1
    have hcv : (nI vj).toNatClampNeg = vj := nI_clamp (by omega)
    simp only [hcv]
    have hw := cw.wv (show vj < 60 by omega) (hvv vj hbv)
    refine x_iload_n dX2_arc_12 rfl ?_
    refine x_if_lt 21 dX2_arc_13 (by decide) (fun c13 => ?_) (fun c13 => ?_)
    · have hG : ¬ (pL R I x nv (nI vj) ∧ (¬ qw < 0 ∧ ¬ 1 < qw)) := fun z => z.2.1 c13
      refine x_iconst (v := (-1)) dX2_arc_21 (by decide +kernel) ?_
      exact x_ri dX2_arc_22 (by rw [if_neg hG])
    · refine x_iload_n dX2_arc_16 rfl ?_
      refine x_iconst (v := (1)) dX2_arc_17 (by decide +kernel) ?_
      refine x_icmp_le 23 dX2_arc_18 (by decide) (fun c18 => ?_) (fun c18 => ?_)
      · have hz : (¬ qw < 0 ∧ ¬ 1 < qw) := ⟨c13, Int32.not_lt.mpr c18⟩
        refine x_iload_n dX2_arc_23 rfl ?_
        refine x_if_ge 30 dX2_arc_24 (by decide) (fun c24 => ?_) (fun c24 => ?_)
        · obtain ⟨j, hj0, rfl⟩ := nI_of (Int32.not_lt.mpr c24)
          have hlen : ∀ n, n ≤ 64 → (arcL (fun f t => bt (J (R (x + 1) vj + 1) f) t) 64 n).length ≤ 4096 := fun n hn => Nat.le_trans arcL_len (Nat.mul_le_mul_right 64 hn)
          have loop : ∀ (Tq f : Nat), Tq + f = nn → (arcL (fun f t => bt (J (R (x + 1) vj + 1) f) t) 64 f).length ≤ j → XW l D (fun _ => True) RX2 "arc" cX2_arc 8 2 0 0 K sz (Zx (some (.int (if pL R I x nv (nI vj) ∧ (¬ qw < 0 ∧ ¬ 1 < qw) then ansL (arcL (fun f t => bt (J (R (x + 1) vj + 1) f) t) 64 nn) (nI j) qw else -1))) K N R I J sz) 36 [.ref x, .int (nI vj), .int (nI j), .int qw, .ref (R (x + 1) vj), .int (nI (j - (arcL (fun f t => bt (J (R (x + 1) vj + 1) f) t) 64 f).length)), .int (nI f), .null] [] K N R (I) (J) sz 0 0 := by
            intro Tq
            induction Tq with
            | zero =>
              intro f hf hc
              obtain rfl : f = nn := by omega
              have := hlen f hnn
              refine x_iload dX2_arc_36 rfl ?_
              refine x_aload_n dX2_arc_38 rfl ?_
              refine x_geti dX2_arc_39 fl_X2_29 cw.k rfl ?_
              refine x_icmp_ge 101 dX2_arc_42 (by decide) (fun c42 => ?_) (fun c42 => ?_)
              · refine x_ldc dX2_arc_101 ki_X2_109 ?_
                exact x_ri dX2_arc_103 (by rw [if_pos ⟨hv, hz⟩, ansL, if_neg (nI_pos hj0), nI_clamp hj0, List.getElem?_eq_none hc])
              · exact absurd (by rw [h5]; exact nI_le (by omega) (by omega)) c42
            | succ Tq ih =>
              intro f hf hc
              have ka := cnt64 (J (R (x + 1) vj + 1) f)
              have hs := arcL_suc2 (W := J (R (x + 1) vj + 1)) (f := f)
              have := hlen f (by omega)
              refine x_iload dX2_arc_36 rfl ?_
              refine x_aload_n dX2_arc_38 rfl ?_
              refine x_geti dX2_arc_39 fl_X2_29 cw.k rfl ?_
              refine x_icmp_ge 101 dX2_arc_42 (by decide) (fun c42 => ?_) (fun c42 => ?_)
              · rw [h5] at c42; exact absurd c42 (nI_ge (by omega) (by omega))
              · refine x_aload dX2_arc_45 rfl ?_
                refine x_getq dX2_arc_47 fl_X2_110 hw.k hw.r4 rfl ?_
                refine x_iload dX2_arc_50 rfl ?_
                refine x_lald (f) dX2_arc_52 hw.k4 hw.n4 rfl (by omega) (by decide) ?_
                refine x_eS (c_J13_bitCount_95d88 l D _) dX2_arc_53 lk_X2_113 st_J13_bitCount_95d88 cd_J13_bitCount_95d88 rfl (by decide) rfl (by first | decide | simp [Value.category]) ?_
                refine x_istore dX2_arc_56 (by decide) rfl ?_
                refine x_iload dX2_arc_58 rfl ?_
                refine x_iload dX2_arc_60 rfl ?_
                refine x_icmp_ge 88 dX2_arc_62 (by decide) (fun c62 => ?_) (fun c62 => ?_)
                · have c62 : cntP (bt (J (R (x + 1) vj + 1) f)) 64 ≤ j - (arcL (fun f t => bt (J (R (x + 1) vj + 1) f) t) 64 f).length := (nI_leI (by omega) (by omega)).mp c62
                  refine x_iload dX2_arc_88 rfl ?_
                  refine x_iload dX2_arc_90 rfl ?_
                  refine x_isub dX2_arc_92 ?_
                  rw [pk_sub c62]
                  refine x_istore dX2_arc_93 (by decide) rfl ?_
                  refine x_iinc dX2_arc_95 rfl rfl (by decide) rfl ?_
                  refine x_goto 36 dX2_arc_98 (by decide) ?_
                  refine x_drop 7 ?_
                  exact x_eql (by show [_, _, _, _, _, Value.int _, Value.int _, _] = _; rw [hs, show j - ((arcL (fun f t => bt (J (R (x + 1) vj + 1) f) t) 64 f).length + cntP (bt (J (R (x + 1) vj + 1) f)) 64) = j - (arcL (fun f t => bt (J (R (x + 1) vj + 1) f) t) 64 f).length - cntP (bt (J (R (x + 1) vj + 1) f)) 64 by omega]; simp [nI_1]) (ih (f + 1) (by omega) (by omega))
                · have c62 : j - (arcL (fun f t => bt (J (R (x + 1) vj + 1) f) t) 64 f).length < cntP (bt (J (R (x + 1) vj + 1) f)) 64 := by
                    rcases Nat.lt_or_ge (j - (arcL (fun f t => bt (J (R (x + 1) vj + 1) f) t) 64 f).length) (cntP (bt (J (R (x + 1) vj + 1) f)) 64) with z | z
                    · exact z
                    · exact absurd (nI_le z (by omega)) c62
                  have hat := arcL_pl (W := J (R (x + 1) vj + 1)) (show f < nn by omega) c62
                  rw [show (arcL (fun f t => bt (J (R (x + 1) vj + 1) f) t) 64 f).length + (j - (arcL (fun f t => bt (J (R (x + 1) vj + 1) f) t) 64 f).length) = j by omega] at hat
                  have hans := ansL_at (wq := qw) hj0 hat
                  refine x_iload_n dX2_arc_65 rfl ?_
                  refine x_if_ne 74 dX2_arc_66 (by decide) (fun c66 => ?_) (fun c66 => ?_)
                  · refine x_aload dX2_arc_74 rfl ?_
                    refine x_getq dX2_arc_76 fl_X2_110 hw.k hw.r4 rfl ?_
                    refine x_iload dX2_arc_79 rfl ?_
                    refine x_lald (f) dX2_arc_81 hw.k4 hw.n4 rfl (by omega) (by decide) ?_
                    refine x_iload dX2_arc_82 rfl ?_
                    refine x_eS (c_X2_placeOfBit l D c62) dX2_arc_84 lk_X2_119 st_X2_placeOfBit cd_X2_placeOfBit rfl (by decide) rfl (by first | decide | simp [Value.category]) ?_
                    first
                      | exact x_ri dX2_arc_87 (by rw [if_pos ⟨hv, hz⟩, hans, if_pos c66])
                      | exact x_ri dX2_arc_87 (by rw [if_pos ⟨hv, hz⟩, hans, if_neg c66])
                  · refine x_iload dX2_arc_69 rfl ?_
                    refine x_goto 87 dX2_arc_71 (by decide) ?_
                    first
                      | exact x_ri dX2_arc_87 (by rw [if_pos ⟨hv, hz⟩, hans, if_pos c66])
                      | exact x_ri dX2_arc_87 (by rw [if_pos ⟨hv, hz⟩, hans, if_neg c66])
          refine x_iload_n dX2_arc_30 rfl ?_
          refine x_istore dX2_arc_31 (by decide) rfl ?_
          refine x_iconst (v := (0)) dX2_arc_33 (by decide +kernel) ?_
          refine x_istore dX2_arc_34 (by decide) rfl ?_
          exact x_eql (by show [_, _, _, _, _, Value.int _, Value.int _, _] = _; rfl) (loop nn 0 rfl (Nat.zero_le _))
        · refine x_ldc dX2_arc_27 ki_X2_109 ?_
          exact x_ri dX2_arc_29 (by rw [if_pos ⟨hv, hz⟩, ansL, if_pos (Int32.not_le.mp c24)])
      · have hG : ¬ (pL R I x nv (nI vj) ∧ (¬ qw < 0 ∧ ¬ 1 < qw)) := fun z => z.2.2 (Int32.not_le.mp c18)
        refine x_iconst (v := (-1)) dX2_arc_21 (by decide +kernel) ?_
        exact x_ri dX2_arc_22 (by rw [if_neg hG])
