/-! The class: calls that only read -/
theorem liv_n {c : Prop} [Decidable c] {r : Nat} (hr : c → r ≠ 0) (h : (if c then r else 0) = 0) : ¬ c := fun z => by rw [if_pos z] at h; exact hr z h
theorem liv_s {c : Prop} [Decidable c] {r : Nat} (h : (if c then r else 0) ≠ 0) : c := by
  by_cases z : c
  · exact z
  · exact absurd (if_neg z) h
/-- a living version of the class -/
abbrev pL (R : Nat → Nat → Nat) (I : Nat → Nat → Int32) (x nv : Nat) (q : Int32) : Prop := pN nv q ∧ I (R (x + 1) q.toNatClampNeg) 3 = 0
set_option maxHeartbeats 4000000 in
theorem c_X2_has (l : Launch) (D : va_G) {K N : Nat → Nat} {R : Nat → Nat → Nat} {I : Nat → Nat → Int32} {J : Nat → Nat → Int64} {sz : Nat} {x : Nat} (cw : CW x K N R) {nv : Nat} (h8 : I x 8 = nI nv) (hnv : nv ≤ 60) (hvv : ∀ i, i < nv → R (x + 1) i ≠ 0) {nn : Nat} (h5 : I x 5 = nI nn) (hnn : nn ≤ 64) (qv qa qb : Int32) : XM l D yX2_has cX2_has 5 (some .int) 2 0 0 [.ref x, .int qv, .int qa, .int qb] K N R I J sz (Zx (some (.int (if pL R I x nv qv ∧ pN nn qa ∧ pN nn qb then bI (bt (J (R (x + 1) qv.toNatClampNeg + 1) qa.toNatClampNeg) qb.toNatClampNeg = true) else -1))) K N R I J sz) := by
  refine XM.of (own := RX2) (nm := "has") (by decide +kernel) rfl rfl (by simp [xla, Value.category]) [.ref x, .int qv, .int qa, .int qb, .null] rfl (Zx.rt ⟨_, rfl⟩) ?_
  refine x_aload_n dX2_has_0 rfl ?_
  refine x_iload_n dX2_has_1 rfl ?_
  refine x_eV (c_X2_living l D cw h8 hnv hvv _) dX2_has_2 lk_X2_67 im_X2_living se_X2_living cd_X2_living (by decide) cw.k vcX2 rfl (by decide) rfl (by first | decide | simp [Value.category]) ?_
  refine x_astore dX2_has_5 (by decide) rfl ?_
  refine x_aload dX2_has_7 rfl ?_
  refine x_ifnull 28 dX2_has_9 (by decide) (fun c9 => ?_) (fun c9 => ?_)
  · have c9 := liv_n (fun z => hvv _ z.1.2) c9
    have hG : ¬ (pL R I x nv qv ∧ pN nn qa ∧ pN nn qb) := fun z => c9 z.1
    refine x_iconst (v := (-1)) dX2_has_28 (by decide +kernel) ?_
    exact x_ri dX2_has_29 (by rw [if_neg hG])
  · have hv : pL R I x nv qv := liv_s c9
    simp only [if_pos hv]
    obtain ⟨vj, hbv, rfl⟩ := pN_ex hv.1
    have hcv : (nI vj).toNatClampNeg = vj := nI_clamp (by omega)
    simp only [hcv]
    have hw := cw.wv (show vj < 60 by omega) (hvv vj hbv)
    refine x_aload_n dX2_has_12 rfl ?_
    refine x_iload_n dX2_has_13 rfl ?_
    refine x_eV (c_X2_isNode l D cw h5 hnn _) dX2_has_14 lk_X2_75 im_X2_isNode se_X2_isNode cd_X2_isNode (by decide) cw.k vcX2 rfl (by decide) rfl (by first | decide | simp [Value.category]) ?_
    refine x_if_eq 28 dX2_has_17 (by decide) (fun c17 => ?_) (fun c17 => ?_)
    · rw [bI_e0] at c17
      have hG : ¬ (pL R I x nv (nI vj) ∧ pN nn qa ∧ pN nn qb) := fun z => c17 z.2.1
      refine x_iconst (v := (-1)) dX2_has_28 (by decide +kernel) ?_
      exact x_ri dX2_has_29 (by rw [if_neg hG])
    · rw [bI_n0] at c17
      obtain ⟨aj, haj, rfl⟩ := pN_ex c17
      refine x_aload_n dX2_has_20 rfl ?_
      refine x_iload_n dX2_has_21 rfl ?_
      refine x_eV (c_X2_isNode l D cw h5 hnn _) dX2_has_22 lk_X2_75 im_X2_isNode se_X2_isNode cd_X2_isNode (by decide) cw.k vcX2 rfl (by decide) rfl (by first | decide | simp [Value.category]) ?_
      refine x_if_ne 30 dX2_has_25 (by decide) (fun c25 => ?_) (fun c25 => ?_)
      · rw [bI_n0] at c25
        obtain ⟨bj, hbj, rfl⟩ := pN_ex c25
        refine x_aload dX2_has_30 rfl ?_
        refine x_iload_n dX2_has_32 rfl ?_
        refine x_iload_n dX2_has_33 rfl ?_
        refine x_eV (c_X1_leads l D hw (n := aj) (t := bj) (by omega) (by omega)) dX2_has_34 lk_X2_105 im_X1_leads se_X1_leads cd_X1_leads (by decide) hw.k vcX1 rfl (by decide) rfl (by first | decide | simp [Value.category]) ?_
        refine x_if_eq 44 dX2_has_37 (by decide) (fun c37 => ?_) (fun c37 => ?_)
        · rw [bI_e0] at c37
          have hz : bI (bt (J (R (x + 1) vj + 1) aj) bj = true) = 0 := bI_f c37
          refine x_iconst (v := (0)) dX2_has_44 (by decide +kernel) ?_
          exact x_ri dX2_has_45 (by rw [if_pos ⟨hv, c17, c25⟩, clz (show aj < 64 by omega), clz (show bj < 64 by omega), hz])
        · rw [bI_n0] at c37
          have hz : bI (bt (J (R (x + 1) vj + 1) aj) bj = true) = 1 := bI_t c37
          refine x_iconst (v := (1)) dX2_has_40 (by decide +kernel) ?_
          refine x_goto 45 dX2_has_41 (by decide) ?_
          exact x_ri dX2_has_45 (by rw [if_pos ⟨hv, c17, c25⟩, clz (show aj < 64 by omega), clz (show bj < 64 by omega), hz])
      · rw [bI_e0] at c25
        have hG : ¬ (pL R I x nv (nI vj) ∧ pN nn (nI aj) ∧ pN nn qb) := fun z => c25 z.2.2
        refine x_iconst (v := (-1)) dX2_has_28 (by decide +kernel) ?_
        exact x_ri dX2_has_29 (by rw [if_neg hG])
set_option maxHeartbeats 4000000 in
theorem c_X2_at (l : Launch) (D : va_G) {K N : Nat → Nat} {R : Nat → Nat → Nat} {I : Nat → Nat → Int32} {J : Nat → Nat → Int64} {sz : Nat} {x : Nat} (cw : CW x K N R) {nv : Nat} (h8 : I x 8 = nI nv) (hnv : nv ≤ 60) (hvv : ∀ i, i < nv → R (x + 1) i ≠ 0) {nn : Nat} (h5 : I x 5 = nI nn) (hnn : nn ≤ 64) (qv qa qb : Int32) : XM l D yX2_at cX2_at 5 (some .long) 2 0 0 [.ref x, .int qv, .int qa, .int qb] K N R I J sz (Zx (some (.long (if pL R I x nv qv ∧ (¬ qa < 0 ∧ ¬ 1 < qa) ∧ pN nn qb then J (R (x + 1) qv.toNatClampNeg + 2) (qb.toNatClampNeg * 2 + qa.toNatClampNeg) else 0))) K N R I J sz) := by
  refine XM.of (own := RX2) (nm := "at") (by decide +kernel) rfl rfl (by simp [xla, Value.category]) [.ref x, .int qv, .int qa, .int qb, .null] rfl (Zx.rt ⟨_, rfl⟩) ?_
  refine x_aload_n dX2_at_0 rfl ?_
  refine x_iload_n dX2_at_1 rfl ?_
  refine x_eV (c_X2_living l D cw h8 hnv hvv _) dX2_at_2 lk_X2_67 im_X2_living se_X2_living cd_X2_living (by decide) cw.k vcX2 rfl (by decide) rfl (by first | decide | simp [Value.category]) ?_
  refine x_astore dX2_at_5 (by decide) rfl ?_
  refine x_aload dX2_at_7 rfl ?_
  refine x_ifnull 27 dX2_at_9 (by decide) (fun c9 => ?_) (fun c9 => ?_)
  · have c9 := liv_n (fun z => hvv _ z.1.2) c9
    have hG : ¬ (pL R I x nv qv ∧ (¬ qa < 0 ∧ ¬ 1 < qa) ∧ pN nn qb) := fun z => c9 z.1
    refine x_lconst (v := 0) dX2_at_27 (by decide +kernel) ?_
    exact x_rl dX2_at_28 (by rw [if_neg hG])
  · have hv : pL R I x nv qv := liv_s c9
    simp only [if_pos hv]
    obtain ⟨vj, hbv, rfl⟩ := pN_ex hv.1
    have hcv : (nI vj).toNatClampNeg = vj := nI_clamp (by omega)
    simp only [hcv]
    have hw := cw.wv (show vj < 60 by omega) (hvv vj hbv)
    refine x_iload_n dX2_at_12 rfl ?_
    refine x_eS (c_X2_isColumn l D _) dX2_at_13 lk_X2_71 st_X2_isColumn cd_X2_isColumn rfl (by decide) rfl (by first | decide | simp [Value.category]) ?_
    refine x_if_eq 27 dX2_at_16 (by decide) (fun c16 => ?_) (fun c16 => ?_)
    · rw [bI_e0] at c16
      have hG : ¬ (pL R I x nv (nI vj) ∧ (¬ qa < 0 ∧ ¬ 1 < qa) ∧ pN nn qb) := fun z => c16 z.2.1
      refine x_lconst (v := 0) dX2_at_27 (by decide +kernel) ?_
      exact x_rl dX2_at_28 (by rw [if_neg hG])
    · rw [bI_n0] at c16
      obtain ⟨aj, haj, rfl⟩ := in01 c16
      refine x_aload_n dX2_at_19 rfl ?_
      refine x_iload_n dX2_at_20 rfl ?_
      refine x_eV (c_X2_isNode l D cw h5 hnn _) dX2_at_21 lk_X2_75 im_X2_isNode se_X2_isNode cd_X2_isNode (by decide) cw.k vcX2 rfl (by decide) rfl (by first | decide | simp [Value.category]) ?_
      refine x_if_ne 29 dX2_at_24 (by decide) (fun c24 => ?_) (fun c24 => ?_)
      · rw [bI_n0] at c24
        obtain ⟨bj, hbj, rfl⟩ := pN_ex c24
        refine x_aload dX2_at_29 rfl ?_
        refine x_iload_n dX2_at_31 rfl ?_
        refine x_iload_n dX2_at_32 rfl ?_
        refine x_eV (c_X1_numberAt l D hw (n := bj) (c := aj) (by omega) (by omega)) dX2_at_33 lk_X2_82 im_X1_numberAt se_X1_numberAt cd_X1_numberAt (by decide) hw.k vcX1 rfl (by decide) rfl (by first | decide | simp [Value.category]) ?_
        exact x_rl dX2_at_36 (by rw [if_pos ⟨hv, c16, c24⟩, clz (show aj < 64 by omega), clz (show bj < 64 by omega)])
      · rw [bI_e0] at c24
        have hG : ¬ (pL R I x nv (nI vj) ∧ (¬ nI aj < 0 ∧ ¬ 1 < nI aj) ∧ pN nn qb) := fun z => c24 z.2.2
        refine x_lconst (v := 0) dX2_at_27 (by decide +kernel) ?_
        exact x_rl dX2_at_28 (by rw [if_neg hG])
set_option maxHeartbeats 4000000 in
theorem c_X2_chunk (l : Launch) (D : va_G) {K N : Nat → Nat} {R : Nat → Nat → Nat} {I : Nat → Nat → Int32} {J : Nat → Nat → Int64} {sz : Nat} {x : Nat} (cw : CW x K N R) {nv : Nat} (h8 : I x 8 = nI nv) (hnv : nv ≤ 60) (hvv : ∀ i, i < nv → R (x + 1) i ≠ 0) {nc : Nat} (h7 : I x 7 = nI nc) (hnc : nc ≤ 64) (qv qa : Int32) : XM l D yX2_chunk cX2_chunk 4 (some .int) 2 0 0 [.ref x, .int qv, .int qa] K N R I J sz (Zx (some (.int (if pL R I x nv qv then (if pN nc qa then I (R (x + 1) qv.toNatClampNeg + 3) qa.toNatClampNeg else -99999999) else -1))) K N R I J sz) := by
  refine XM.of (own := RX2) (nm := "chunk") (by decide +kernel) rfl rfl (by simp [xla, Value.category]) [.ref x, .int qv, .int qa, .null] rfl (Zx.rt ⟨_, rfl⟩) ?_
  refine x_aload_n dX2_chunk_0 rfl ?_
  refine x_iload_n dX2_chunk_1 rfl ?_
  refine x_eV (c_X2_living l D cw h8 hnv hvv _) dX2_chunk_2 lk_X2_67 im_X2_living se_X2_living cd_X2_living (by decide) cw.k vcX2 rfl (by decide) rfl (by first | decide | simp [Value.category]) ?_
  refine x_astore_n dX2_chunk_5 (by decide) rfl ?_
  refine x_aload_n dX2_chunk_6 rfl ?_
  refine x_ifnonnull 12 dX2_chunk_7 (by decide) (fun c7 => ?_) (fun c7 => ?_)
  · have hv : pL R I x nv qv := liv_s c7
    simp only [if_pos hv]
    obtain ⟨vj, hbv, rfl⟩ := pN_ex hv.1
    have hcv : (nI vj).toNatClampNeg = vj := nI_clamp (by omega)
    simp only [hcv]
    have hw := cw.wv (show vj < 60 by omega) (hvv vj hbv)
    refine x_iload_n dX2_chunk_12 rfl ?_
    refine x_if_lt 24 dX2_chunk_13 (by decide) (fun c13 => ?_) (fun c13 => ?_)
    · have hz : ¬ pN nc qa := fun z => z.1 c13
      refine x_ldc dX2_chunk_24 ki_X2_109 ?_
      refine x_goto 35 dX2_chunk_26 (by decide) ?_
      first
        | exact x_ri dX2_chunk_35 (by rw [if_neg hz])
        | exact x_ri dX2_chunk_35 (by rw [if_pos ((pN_nI (by omega)).mpr c21), nI_clamp haj])
    · obtain ⟨aj, haj, rfl⟩ := nI_of c13
      refine x_iload_n dX2_chunk_16 rfl ?_
      refine x_aload_n dX2_chunk_17 rfl ?_
      refine x_geti dX2_chunk_18 fl_X2_32 cw.k rfl ?_
      refine x_icmp_lt 29 dX2_chunk_21 (by decide) (fun c21 => ?_) (fun c21 => ?_)
      · have c21 : aj < nc := by rw [h7] at c21; exact (nI_ltI haj (by omega)).mp c21
        refine x_aload_n dX2_chunk_29 rfl ?_
        refine x_getq dX2_chunk_30 fl_X2_90 hw.k hw.r6 rfl ?_
        refine x_iload_n dX2_chunk_33 rfl ?_
        refine x_iald (aj) dX2_chunk_34 hw.k6 hw.n6 rfl (by omega) (by decide) ?_
        first
          | exact x_ri dX2_chunk_35 (by rw [if_neg hz])
          | exact x_ri dX2_chunk_35 (by rw [if_pos ((pN_nI (by omega)).mpr c21), nI_clamp haj])
      · have hz : ¬ pN nc (nI aj) := fun z => c21 (by rw [h7]; exact nI_lt ((pN_nI (by omega)).mp z) (by omega))
        refine x_ldc dX2_chunk_24 ki_X2_109 ?_
        refine x_goto 35 dX2_chunk_26 (by decide) ?_
        first
          | exact x_ri dX2_chunk_35 (by rw [if_neg hz])
          | exact x_ri dX2_chunk_35 (by rw [if_pos ((pN_nI (by omega)).mpr c21), nI_clamp haj])
  · have c7 := liv_n (fun z => hvv _ z.1.2) c7
    refine x_iconst (v := (-1)) dX2_chunk_10 (by decide +kernel) ?_
    exact x_ri dX2_chunk_11 (by rw [if_neg c7])
set_option maxHeartbeats 4000000 in
theorem c_X2_parent (l : Launch) (D : va_G) {K N : Nat → Nat} {R : Nat → Nat → Nat} {I : Nat → Nat → Int32} {J : Nat → Nat → Int64} {sz : Nat} {x : Nat} (cw : CW x K N R) {nv : Nat} (h8 : I x 8 = nI nv) (hnv : nv ≤ 60) (hvv : ∀ i, i < nv → R (x + 1) i ≠ 0) (qv : Int32) : XM l D yX2_parent cX2_parent 3 (some .int) 1 0 0 [.ref x, .int qv] K N R I J sz (Zx (some (.int (if pN nv qv then I (R (x + 1) qv.toNatClampNeg) 1 else -1))) K N R I J sz) := by
  refine XM.of (own := RX2) (nm := "parent") (by decide +kernel) rfl rfl (by simp [xla, Value.category]) [.ref x, .int qv, .null] rfl (Zx.rt ⟨_, rfl⟩) ?_
  refine x_aload_n dX2_parent_0 rfl ?_
  refine x_iload_n dX2_parent_1 rfl ?_
  refine x_eV (c_X2_everMade l D cw h8 hnv _) dX2_parent_2 lk_X2_182 im_X2_everMade se_X2_everMade cd_X2_everMade (by decide) cw.k vcX2 rfl (by decide) rfl (by first | decide | simp [Value.category]) ?_
  refine x_astore_n dX2_parent_5 (by decide) rfl ?_
  refine x_aload_n dX2_parent_6 rfl ?_
  refine x_ifnonnull 14 dX2_parent_7 (by decide) (fun c7 => ?_) (fun c7 => ?_)
  · have hv := liv_s c7
    simp only [if_pos hv]
    obtain ⟨vj, hvj, rfl⟩ := pN_ex hv
    have hcv : (nI vj).toNatClampNeg = vj := nI_clamp (by omega)
    simp only [hcv]
    have hw := cw.wv (show vj < 60 by omega) (hvv vj hvj)
    refine x_aload_n dX2_parent_14 rfl ?_
    refine x_geti dX2_parent_15 fl_X2_185 hw.k rfl ?_
    first
      | exact x_ri dX2_parent_18 (by rw [if_neg c7])
      | exact x_ri dX2_parent_18 rfl
  · have c7 := liv_n (fun z => hvv _ z.2) c7
    refine x_iconst (v := (-1)) dX2_parent_10 (by decide +kernel) ?_
    refine x_goto 18 dX2_parent_11 (by decide) ?_
    first
      | exact x_ri dX2_parent_18 (by rw [if_neg c7])
      | exact x_ri dX2_parent_18 rfl
set_option maxHeartbeats 4000000 in
theorem c_X2_clock (l : Launch) (D : va_G) {K N : Nat → Nat} {R : Nat → Nat → Nat} {I : Nat → Nat → Int32} {J : Nat → Nat → Int64} {sz : Nat} {x : Nat} (cw : CW x K N R) (qt : Int32) : XM l D yX2_clock cX2_clock 3 (some .int) 0 0 0 [.ref x, .int qt] K N R I J sz (Zx (some (.int (if qt < I x 12 then -1 else I x 12))) K N R (if qt < I x 12 then I else va_up I x (va_up (I x) 12 qt)) J sz) := by
  refine XM.of (own := RX2) (nm := "clock") (by decide +kernel) rfl rfl (by simp [xla, Value.category]) [.ref x, .int qt, .null] rfl (Zx.rt ⟨_, rfl⟩) ?_
  refine x_iload_n dX2_clock_0 rfl ?_
  refine x_aload_n dX2_clock_1 rfl ?_
  refine x_geti dX2_clock_2 fl_X2_60 cw.k rfl ?_
  refine x_icmp_ge 10 dX2_clock_5 (by decide) (fun c5 => ?_) (fun c5 => ?_)
  · have hz : ¬ qt < I x 12 := Int32.not_lt.mpr c5
    refine x_aload_n dX2_clock_10 rfl ?_
    refine x_geti dX2_clock_11 fl_X2_60 cw.k rfl ?_
    refine x_istore_n dX2_clock_14 (by decide) rfl ?_
    refine x_aload_n dX2_clock_15 rfl ?_
    refine x_iload_n dX2_clock_16 rfl ?_
    refine x_puti dX2_clock_17 fl_X2_60 cw.k rfl (Or.inl rfl) ?_
    refine x_iload_n dX2_clock_20 rfl ?_
    exact x_zi dX2_clock_21 ⟨by rw [if_neg hz], rfl, rfl, rfl, by rw [if_neg hz], rfl, rfl⟩
  · have hz : qt < I x 12 := Int32.not_le.mp c5
    refine x_iconst (v := (-1)) dX2_clock_8 (by decide +kernel) ?_
    exact x_zi dX2_clock_9 ⟨by rw [if_pos hz], rfl, rfl, rfl, by rw [if_pos hz], rfl, rfl⟩
set_option maxHeartbeats 4000000 in
theorem c_X2_count (l : Launch) (D : va_G) {K N : Nat → Nat} {R : Nat → Nat → Nat} {I : Nat → Nat → Int32} {J : Nat → Nat → Int64} {sz : Nat} {x : Nat} (cw : CW x K N R) (qw : Int32) : XM l D yX2_count cX2_count 2 (some .int) 0 0 0 [.ref x, .int qw] K N R I J sz (Zx (some (.int (cntZ qw (I x 5) (I x 8) (I x 8 - I x 9) (I x 10) (I x 10 - I x 11) (I (x + 2) 0) (I (x + 5) 0) (I x 12)))) K N R I J sz) := by
  refine XM.of (own := RX2) (nm := "count") (by decide +kernel) rfl rfl (by simp [xla, Value.category]) [.ref x, .int qw] rfl (Zx.rt ⟨_, rfl⟩) ?_
  refine x_iload_n dX2_count_0 rfl ?_
  by_cases e0 : qw = 0
  · subst e0
    refine x_tableIn 48 dX2_count_1 (by decide) (by decide) rfl (by decide) ?_
    refine x_aload_n dX2_count_48 rfl ?_
    refine x_geti dX2_count_49 fl_X2_29 cw.k rfl ?_
    exact x_ri dX2_count_52 (by simp [cntZ])
  by_cases e1 : qw = 1
  · subst e1
    refine x_tableIn 53 dX2_count_1 (by decide) (by decide) rfl (by decide) ?_
    refine x_aload_n dX2_count_53 rfl ?_
    refine x_geti dX2_count_54 fl_X2_45 cw.k rfl ?_
    exact x_ri dX2_count_57 (by simp [cntZ])
  by_cases e2 : qw = 2
  · subst e2
    refine x_tableIn 58 dX2_count_1 (by decide) (by decide) rfl (by decide) ?_
    refine x_aload_n dX2_count_58 rfl ?_
    refine x_geti dX2_count_59 fl_X2_45 cw.k rfl ?_
    refine x_aload_n dX2_count_62 rfl ?_
    refine x_geti dX2_count_63 fl_X2_48 cw.k rfl ?_
    refine x_isub dX2_count_66 ?_
    exact x_ri dX2_count_67 (by simp [cntZ])
  by_cases e3 : qw = 3
  · subst e3
    refine x_tableIn 68 dX2_count_1 (by decide) (by decide) rfl (by decide) ?_
    refine x_aload_n dX2_count_68 rfl ?_
    refine x_geti dX2_count_69 fl_X2_51 cw.k rfl ?_
    exact x_ri dX2_count_72 (by simp [cntZ])
  by_cases e4 : qw = 4
  · subst e4
    refine x_tableIn 73 dX2_count_1 (by decide) (by decide) rfl (by decide) ?_
    refine x_aload_n dX2_count_73 rfl ?_
    refine x_geti dX2_count_74 fl_X2_51 cw.k rfl ?_
    refine x_aload_n dX2_count_77 rfl ?_
    refine x_geti dX2_count_78 fl_X2_54 cw.k rfl ?_
    refine x_isub dX2_count_81 ?_
    exact x_ri dX2_count_82 (by simp [cntZ])
  by_cases e5 : qw = 5
  · subst e5
    refine x_tableIn 83 dX2_count_1 (by decide) (by decide) rfl (by decide) ?_
    refine x_aload_n dX2_count_83 rfl ?_
    refine x_getq dX2_count_84 fl_X2_18 cw.k cw.r1 rfl ?_
    refine x_geti dX2_count_87 fl_X2_139 cw.wu.k rfl ?_
    exact x_ri dX2_count_90 (by simp [cntZ])
  by_cases e6 : qw = 6
  · subst e6
    refine x_tableIn 91 dX2_count_1 (by decide) (by decide) rfl (by decide) ?_
    refine x_aload_n dX2_count_91 rfl ?_
    refine x_getq dX2_count_92 fl_X2_22 cw.k cw.r2 rfl ?_
    refine x_geti dX2_count_95 fl_X2_139 cw.wc.k rfl ?_
    exact x_ri dX2_count_98 (by simp [cntZ])
  by_cases e7 : qw = 7
  · subst e7
    refine x_tableIn 99 dX2_count_1 (by decide) (by decide) rfl (by decide) ?_
    refine x_aload_n dX2_count_99 rfl ?_
    refine x_geti dX2_count_100 fl_X2_60 cw.k rfl ?_
    exact x_ri dX2_count_103 (by simp [cntZ])
  refine x_tableOut 104 dX2_count_1 (tsw e0 e1 e2 e3 e4 e5 e6 e7) (by decide) ?_
  refine x_iconst (v := (-1)) dX2_count_104 (by decide +kernel) ?_
  exact x_ri dX2_count_105 (by simp [cntZ, *])
def tmC (R : Nat → Nat → Nat) (I : Nat → Nat → Int32) (x : Nat) (qt : Int32) : Nat → Int32 := tmA (fun k => I (R (x + 1) k) 3) (fun k => I (R (x + 1) k) 2) qt
set_option maxHeartbeats 4000000 in
theorem c_X2_time (l : Launch) (D : va_G) {K N : Nat → Nat} {R : Nat → Nat → Nat} {I : Nat → Nat → Int32} {J : Nat → Nat → Int64} {sz : Nat} {x : Nat} (cw : CW x K N R) {nv : Nat} (h8 : I x 8 = nI nv) (hnv : nv ≤ 60) (hvv : ∀ i, i < nv → R (x + 1) i ≠ 0) (qt : Int32) : XM l D yX2_time cX2_time 4 (some .int) 2 0 0 [.ref x, .int qt] K N R I J sz (Zx (some (.int (tmC R I x qt nv))) K N R I J sz) := by
  have loop : ∀ k : Nat, k ≤ nv → tmC R I x qt nv = tmC R I x qt k → XW l D (fun _ => True) RX2 "time" cX2_time 4 2 0 0 K sz (Zx (some (.int (tmC R I x qt nv))) K N R I J sz) 7 [.ref x, .int qt, .int (nI k - 1), .null] [] K N R (I) (J) sz 0 0 := by
    intro k
    induction k with
    | zero =>
      intro hk e
      refine x_iload_n dX2_time_7 rfl ?_
      refine x_if_lt 37 dX2_time_8 (by decide) (fun c8 => ?_) (fun c8 => ?_)
      · refine x_ldc dX2_time_37 ki_X2_109 ?_
        exact x_ri dX2_time_39 e.symm
      · exact absurd nI_m1z c8
    | succ k ih =>
      intro hk e
      rw [nI_pred]
      have hw := cw.wv (show k < 60 by omega) (hvv k (by omega))
      rw [show tmC R I x qt (k + 1) = if I (R (x + 1) k) 3 = 0 ∧ ¬ qt < I (R (x + 1) k) 2 then nI k else tmC R I x qt k from rfl] at e
      refine x_iload_n dX2_time_7 rfl ?_
      refine x_if_lt 37 dX2_time_8 (by decide) (fun c8 => ?_) (fun c8 => ?_)
      · exact absurd c8 (nI_pos (by omega))
      · refine x_aload_n dX2_time_11 rfl ?_
        refine x_iload_n dX2_time_12 rfl ?_
        refine x_eV (c_X2_living l D cw h8 hnv hvv _) dX2_time_13 lk_X2_67 im_X2_living se_X2_living cd_X2_living (by decide) cw.k vcX2 rfl (by decide) rfl (by first | decide | simp [Value.category]) ?_
        have hck : (nI k).toNatClampNeg = k := nI_clamp (by omega)
        simp only [hck]
        refine x_astore_n dX2_time_16 (by decide) rfl ?_
        refine x_aload_n dX2_time_17 rfl ?_
        refine x_ifnull 31 dX2_time_18 (by decide) (fun c18 => ?_) (fun c18 => ?_)
        · have c18 := liv_n (fun z => hvv k (by omega)) c18
          have e2 := e
          rw [if_neg (fun z => c18 ⟨(pN_nI (by omega)).mpr (by omega), z.1⟩)] at e2
          refine x_iinc (v := nI k - 1) dX2_time_31 rfl (dec1 _) (by decide) rfl ?_
          refine x_goto 7 dX2_time_34 (by decide) ?_
          refine x_drop 3 ?_
          exact x_eql rfl (ih (by omega) e2)
        · have hv := liv_s c18
          rw [if_pos hv]
          refine x_aload_n dX2_time_21 rfl ?_
          refine x_geti dX2_time_22 fl_X2_191 hw.k rfl ?_
          refine x_iload_n dX2_time_25 rfl ?_
          refine x_icmp_gt 31 dX2_time_26 (by decide) (fun c26 => ?_) (fun c26 => ?_)
          · have e2 := e
            rw [if_neg (fun z => z.2 c26)] at e2
            refine x_iinc (v := nI k - 1) dX2_time_31 rfl (dec1 _) (by decide) rfl ?_
            refine x_goto 7 dX2_time_34 (by decide) ?_
            refine x_drop 3 ?_
            exact x_eql rfl (ih (by omega) e2)
          · refine x_iload_n dX2_time_29 rfl ?_
            exact x_ri dX2_time_30 (by rw [e, if_pos ⟨hv.2, c26⟩])
  refine XM.of (own := RX2) (nm := "time") (by decide +kernel) rfl rfl (by simp [xla, Value.category]) [.ref x, .int qt, .null, .null] rfl (Zx.rt ⟨_, rfl⟩) ?_
  refine x_aload_n dX2_time_0 rfl ?_
  refine x_geti dX2_time_1 fl_X2_45 cw.k rfl ?_
  refine x_iconst (v := (1)) dX2_time_4 (by decide +kernel) ?_
  refine x_isub dX2_time_5 ?_
  refine x_istore_n dX2_time_6 (by decide) rfl ?_
  rw [h8]
  exact x_eql rfl (loop nv (Nat.le_refl _) rfl)
