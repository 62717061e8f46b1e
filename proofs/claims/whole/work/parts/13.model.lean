set_option maxHeartbeats 4000000 in
theorem c_X3_put (l : Launch) (D : va_G) {K N : Nat → Nat} {R : Nat → Nat → Nat} {I : Nat → Nat → Int32} {J : Nat → Nat → Int64} {sz : Nat} {m : Nat} (mw : MW m K N R) {nv nn : Nat} (h4 : I m 4 = nI nv) (hnv : nv ≤ 60) (h0 : I m 0 = nI nn) (hnn : nn ≤ 64) (v a b : Int32) {s : Nat} (h1 : I m 1 = nI s) (hs0 : 0 < nn → 0 < s) (hs : s ≤ 64) : XM l D yX3_put cX3_put 4 (some .int) 2 0 0 [.ref m, .int v, .int a, .int b] K N R I J sz (Zx (some (.int (if pV I m nv v ∧ pN nn a ∧ pN nn b then (if bt (J (m + 1) (64 * v.toNatClampNeg + a.toNatClampNeg)) b.toNatClampNeg = true then -2 else chA nv) else -1))) K N R (if pV I m nv v ∧ pN nn a ∧ pN nn b then (if bt (J (m + 1) (64 * v.toNatClampNeg + a.toNatClampNeg)) b.toNatClampNeg = true then I else chI I m v.toNatClampNeg nv (a.toNatClampNeg / s) true) else I) (if pV I m nv v ∧ pN nn a ∧ pN nn b then (if bt (J (m + 1) (64 * v.toNatClampNeg + a.toNatClampNeg)) b.toNatClampNeg = true then J else chJ J m v.toNatClampNeg nv a.toNatClampNeg b.toNatClampNeg 1 true) else J) sz) := by
  refine XM.of (own := RX3) (nm := "put") (by decide +kernel) rfl rfl (by simp [xla, Value.category]) [.ref m, .int v, .int a, .int b] rfl (Zx.rt ⟨_, rfl⟩) ?_
  refine x_aload_n dX3_put_0 rfl ?_
  refine x_iload_n dX3_put_1 rfl ?_
  refine x_eV (c_X3_isVersion l D mw h4 hnv _) dX3_put_2 lk_X3_106 im_X3_isVersion se_X3_isVersion cd_X3_isVersion (by decide) mw.k vcX3 rfl (by decide) rfl (by decide) ?_
  refine x_if_eq 24 dX3_put_5 (by decide) (fun c5 => ?_) (fun c5 => ?_)
  · rw [bI_e0] at c5
    refine x_iconst (v := (-1)) dX3_put_24 (by decide +kernel) ?_
    exact x_zi dX3_put_25 ⟨by rw [if_neg (by rintro ⟨z1, z2, z3⟩; first | exact c5 z1 | exact c13 z2 | exact c21 z3)], rfl, rfl, rfl, by rw [if_neg (by rintro ⟨z1, z2, z3⟩; first | exact c5 z1 | exact c13 z2 | exact c21 z3)], by rw [if_neg (by rintro ⟨z1, z2, z3⟩; first | exact c5 z1 | exact c13 z2 | exact c21 z3)], rfl⟩
  · rw [bI_n0] at c5
    obtain ⟨vj, hvj, rfl⟩ := pN_ex c5.1
    refine x_aload_n dX3_put_8 rfl ?_
    refine x_iload_n dX3_put_9 rfl ?_
    refine x_eV (c_X3_isNode l D mw h0 hnn _) dX3_put_10 lk_X3_110 im_X3_isNode se_X3_isNode cd_X3_isNode (by decide) mw.k vcX3 rfl (by decide) rfl (by decide) ?_
    refine x_if_eq 24 dX3_put_13 (by decide) (fun c13 => ?_) (fun c13 => ?_)
    · rw [bI_e0] at c13
      refine x_iconst (v := (-1)) dX3_put_24 (by decide +kernel) ?_
      exact x_zi dX3_put_25 ⟨by rw [if_neg (by rintro ⟨z1, z2, z3⟩; first | exact c5 z1 | exact c13 z2 | exact c21 z3)], rfl, rfl, rfl, by rw [if_neg (by rintro ⟨z1, z2, z3⟩; first | exact c5 z1 | exact c13 z2 | exact c21 z3)], by rw [if_neg (by rintro ⟨z1, z2, z3⟩; first | exact c5 z1 | exact c13 z2 | exact c21 z3)], rfl⟩
    · rw [bI_n0] at c13
      obtain ⟨aj, haj, rfl⟩ := pN_ex c13
      refine x_aload_n dX3_put_16 rfl ?_
      refine x_iload_n dX3_put_17 rfl ?_
      refine x_eV (c_X3_isNode l D mw h0 hnn _) dX3_put_18 lk_X3_110 im_X3_isNode se_X3_isNode cd_X3_isNode (by decide) mw.k vcX3 rfl (by decide) rfl (by decide) ?_
      refine x_if_ne 26 dX3_put_21 (by decide) (fun c21 => ?_) (fun c21 => ?_)
      · rw [bI_n0] at c21
        obtain ⟨bj, hbj, rfl⟩ := pN_ex c21
        refine x_aload_n dX3_put_26 rfl ?_
        refine x_iload_n dX3_put_27 rfl ?_
        refine x_iload_n dX3_put_28 rfl ?_
        refine x_iload_n dX3_put_29 rfl ?_
        have hG : pV I m nv (nI vj) ∧ pN nn (nI aj) ∧ pN nn (nI bj) := ⟨c5, c13, c21⟩
        refine x_top (tN_a (show bj < 64 by omega)).symm ?_
        refine x_eV (c_X3_item l D mw (v := vj) (n := aj) (c := bj) (by omega) (by omega) (by omega)) dX3_put_30 lk_X3_91 im_X3_item se_X3_item cd_X3_item (by decide) mw.k vcX3 rfl (by decide) rfl (by decide) ?_
        rw [itm_a (show bj < 64 by omega)]
        refine x_lconst (v := 1) dX3_put_33 (by decide +kernel) ?_
        refine x_lcmp dX3_put_34 ?_
        refine x_if_ne 43 dX3_put_35 (by decide) (fun c35 => ?_) (fun c35 => ?_)
        · rw [cmp_eq, it_1] at c35
          refine x_aload_n dX3_put_43 rfl ?_
          refine x_iload_n dX3_put_44 rfl ?_
          refine x_iload_n dX3_put_45 rfl ?_
          refine x_iload_n dX3_put_46 rfl ?_
          refine x_lconst (v := 1) dX3_put_47 (by decide +kernel) ?_
          refine x_eqs (st' := [.long 1, .int (tN bj), .int (nI aj), .int (nI vj), .ref m]) (by rw [tN_a (show bj < 64 by omega)]) ?_
          have hne : (itm J m vj aj bj != 1) = true := by
            rw [itm_a (show bj < 64 by omega)]
            simpa [it] using c35
          refine x_eV (c_X3_changes l D mw (s := s) (x := 1) (v := vj) (n := aj) (c := bj) h4 hnv hvj (by omega) (by omega) h1 (hs0 (by omega)) hs) dX3_put_48 lk_X3_113 im_X3_changes se_X3_changes cd_X3_changes (by decide) mw.k vcX3 rfl (by decide) rfl (by decide) ?_
          rw [hne]
          first
            | exact x_zi dX3_put_51 ⟨by rw [if_pos hG, clz (show vj < 64 by omega), clz (show aj < 64 by omega), clz (show bj < 64 by omega), if_pos c35], rfl, rfl, rfl, by rw [if_pos hG, clz (show vj < 64 by omega), clz (show aj < 64 by omega), clz (show bj < 64 by omega), if_pos c35], by rw [if_pos hG, clz (show vj < 64 by omega), clz (show aj < 64 by omega), clz (show bj < 64 by omega), if_pos c35], rfl⟩
            | exact x_zi dX3_put_51 ⟨by rw [if_pos hG, clz (show vj < 64 by omega), clz (show aj < 64 by omega), clz (show bj < 64 by omega), if_neg c35], rfl, rfl, rfl, by rw [if_pos hG, clz (show vj < 64 by omega), clz (show aj < 64 by omega), clz (show bj < 64 by omega), if_neg c35], by rw [if_pos hG, clz (show vj < 64 by omega), clz (show aj < 64 by omega), clz (show bj < 64 by omega), if_neg c35], rfl⟩
        · rw [cmp_eq, it_1] at c35
          refine x_bipush (v := (-2)) dX3_put_38 (by decide +kernel) ?_
          refine x_goto 51 dX3_put_40 (by decide) ?_
          first
            | exact x_zi dX3_put_51 ⟨by rw [if_pos hG, clz (show vj < 64 by omega), clz (show aj < 64 by omega), clz (show bj < 64 by omega), if_pos c35], rfl, rfl, rfl, by rw [if_pos hG, clz (show vj < 64 by omega), clz (show aj < 64 by omega), clz (show bj < 64 by omega), if_pos c35], by rw [if_pos hG, clz (show vj < 64 by omega), clz (show aj < 64 by omega), clz (show bj < 64 by omega), if_pos c35], rfl⟩
            | exact x_zi dX3_put_51 ⟨by rw [if_pos hG, clz (show vj < 64 by omega), clz (show aj < 64 by omega), clz (show bj < 64 by omega), if_neg c35], rfl, rfl, rfl, by rw [if_pos hG, clz (show vj < 64 by omega), clz (show aj < 64 by omega), clz (show bj < 64 by omega), if_neg c35], by rw [if_pos hG, clz (show vj < 64 by omega), clz (show aj < 64 by omega), clz (show bj < 64 by omega), if_neg c35], rfl⟩
      · rw [bI_e0] at c21
        refine x_iconst (v := (-1)) dX3_put_24 (by decide +kernel) ?_
        exact x_zi dX3_put_25 ⟨by rw [if_neg (by rintro ⟨z1, z2, z3⟩; first | exact c5 z1 | exact c13 z2 | exact c21 z3)], rfl, rfl, rfl, by rw [if_neg (by rintro ⟨z1, z2, z3⟩; first | exact c5 z1 | exact c13 z2 | exact c21 z3)], by rw [if_neg (by rintro ⟨z1, z2, z3⟩; first | exact c5 z1 | exact c13 z2 | exact c21 z3)], rfl⟩
set_option maxHeartbeats 4000000 in
theorem c_X3_take (l : Launch) (D : va_G) {K N : Nat → Nat} {R : Nat → Nat → Nat} {I : Nat → Nat → Int32} {J : Nat → Nat → Int64} {sz : Nat} {m : Nat} (mw : MW m K N R) {nv nn : Nat} (h4 : I m 4 = nI nv) (hnv : nv ≤ 60) (h0 : I m 0 = nI nn) (hnn : nn ≤ 64) (v a b : Int32) {s : Nat} (h1 : I m 1 = nI s) (hs0 : 0 < nn → 0 < s) (hs : s ≤ 64) : XM l D yX3_take cX3_take 4 (some .int) 2 0 0 [.ref m, .int v, .int a, .int b] K N R I J sz (Zx (some (.int (if pV I m nv v ∧ pN nn a ∧ pN nn b then (if bt (J (m + 1) (64 * v.toNatClampNeg + a.toNatClampNeg)) b.toNatClampNeg = false then -2 else chA nv) else -1))) K N R (if pV I m nv v ∧ pN nn a ∧ pN nn b then (if bt (J (m + 1) (64 * v.toNatClampNeg + a.toNatClampNeg)) b.toNatClampNeg = false then I else chI I m v.toNatClampNeg nv (a.toNatClampNeg / s) true) else I) (if pV I m nv v ∧ pN nn a ∧ pN nn b then (if bt (J (m + 1) (64 * v.toNatClampNeg + a.toNatClampNeg)) b.toNatClampNeg = false then J else chJ J m v.toNatClampNeg nv a.toNatClampNeg b.toNatClampNeg 0 true) else J) sz) := by
  refine XM.of (own := RX3) (nm := "take") (by decide +kernel) rfl rfl (by simp [xla, Value.category]) [.ref m, .int v, .int a, .int b] rfl (Zx.rt ⟨_, rfl⟩) ?_
  refine x_aload_n dX3_take_0 rfl ?_
  refine x_iload_n dX3_take_1 rfl ?_
  refine x_eV (c_X3_isVersion l D mw h4 hnv _) dX3_take_2 lk_X3_106 im_X3_isVersion se_X3_isVersion cd_X3_isVersion (by decide) mw.k vcX3 rfl (by decide) rfl (by decide) ?_
  refine x_if_eq 24 dX3_take_5 (by decide) (fun c5 => ?_) (fun c5 => ?_)
  · rw [bI_e0] at c5
    refine x_iconst (v := (-1)) dX3_take_24 (by decide +kernel) ?_
    exact x_zi dX3_take_25 ⟨by rw [if_neg (by rintro ⟨z1, z2, z3⟩; first | exact c5 z1 | exact c13 z2 | exact c21 z3)], rfl, rfl, rfl, by rw [if_neg (by rintro ⟨z1, z2, z3⟩; first | exact c5 z1 | exact c13 z2 | exact c21 z3)], by rw [if_neg (by rintro ⟨z1, z2, z3⟩; first | exact c5 z1 | exact c13 z2 | exact c21 z3)], rfl⟩
  · rw [bI_n0] at c5
    obtain ⟨vj, hvj, rfl⟩ := pN_ex c5.1
    refine x_aload_n dX3_take_8 rfl ?_
    refine x_iload_n dX3_take_9 rfl ?_
    refine x_eV (c_X3_isNode l D mw h0 hnn _) dX3_take_10 lk_X3_110 im_X3_isNode se_X3_isNode cd_X3_isNode (by decide) mw.k vcX3 rfl (by decide) rfl (by decide) ?_
    refine x_if_eq 24 dX3_take_13 (by decide) (fun c13 => ?_) (fun c13 => ?_)
    · rw [bI_e0] at c13
      refine x_iconst (v := (-1)) dX3_take_24 (by decide +kernel) ?_
      exact x_zi dX3_take_25 ⟨by rw [if_neg (by rintro ⟨z1, z2, z3⟩; first | exact c5 z1 | exact c13 z2 | exact c21 z3)], rfl, rfl, rfl, by rw [if_neg (by rintro ⟨z1, z2, z3⟩; first | exact c5 z1 | exact c13 z2 | exact c21 z3)], by rw [if_neg (by rintro ⟨z1, z2, z3⟩; first | exact c5 z1 | exact c13 z2 | exact c21 z3)], rfl⟩
    · rw [bI_n0] at c13
      obtain ⟨aj, haj, rfl⟩ := pN_ex c13
      refine x_aload_n dX3_take_16 rfl ?_
      refine x_iload_n dX3_take_17 rfl ?_
      refine x_eV (c_X3_isNode l D mw h0 hnn _) dX3_take_18 lk_X3_110 im_X3_isNode se_X3_isNode cd_X3_isNode (by decide) mw.k vcX3 rfl (by decide) rfl (by decide) ?_
      refine x_if_ne 26 dX3_take_21 (by decide) (fun c21 => ?_) (fun c21 => ?_)
      · rw [bI_n0] at c21
        obtain ⟨bj, hbj, rfl⟩ := pN_ex c21
        refine x_aload_n dX3_take_26 rfl ?_
        refine x_iload_n dX3_take_27 rfl ?_
        refine x_iload_n dX3_take_28 rfl ?_
        refine x_iload_n dX3_take_29 rfl ?_
        have hG : pV I m nv (nI vj) ∧ pN nn (nI aj) ∧ pN nn (nI bj) := ⟨c5, c13, c21⟩
        refine x_top (tN_a (show bj < 64 by omega)).symm ?_
        refine x_eV (c_X3_item l D mw (v := vj) (n := aj) (c := bj) (by omega) (by omega) (by omega)) dX3_take_30 lk_X3_91 im_X3_item se_X3_item cd_X3_item (by decide) mw.k vcX3 rfl (by decide) rfl (by decide) ?_
        rw [itm_a (show bj < 64 by omega)]
        refine x_lconst (v := 0) dX3_take_33 (by decide +kernel) ?_
        refine x_lcmp dX3_take_34 ?_
        refine x_if_ne 43 dX3_take_35 (by decide) (fun c35 => ?_) (fun c35 => ?_)
        · rw [cmp_eq, it_0] at c35
          refine x_aload_n dX3_take_43 rfl ?_
          refine x_iload_n dX3_take_44 rfl ?_
          refine x_iload_n dX3_take_45 rfl ?_
          refine x_iload_n dX3_take_46 rfl ?_
          refine x_lconst (v := 0) dX3_take_47 (by decide +kernel) ?_
          refine x_eqs (st' := [.long 0, .int (tN bj), .int (nI aj), .int (nI vj), .ref m]) (by rw [tN_a (show bj < 64 by omega)]) ?_
          have hne : (itm J m vj aj bj != 0) = true := by
            rw [itm_a (show bj < 64 by omega)]
            simpa [it] using c35
          refine x_eV (c_X3_changes l D mw (s := s) (x := 0) (v := vj) (n := aj) (c := bj) h4 hnv hvj (by omega) (by omega) h1 (hs0 (by omega)) hs) dX3_take_48 lk_X3_113 im_X3_changes se_X3_changes cd_X3_changes (by decide) mw.k vcX3 rfl (by decide) rfl (by decide) ?_
          rw [hne]
          first
            | exact x_zi dX3_take_51 ⟨by rw [if_pos hG, clz (show vj < 64 by omega), clz (show aj < 64 by omega), clz (show bj < 64 by omega), if_pos c35], rfl, rfl, rfl, by rw [if_pos hG, clz (show vj < 64 by omega), clz (show aj < 64 by omega), clz (show bj < 64 by omega), if_pos c35], by rw [if_pos hG, clz (show vj < 64 by omega), clz (show aj < 64 by omega), clz (show bj < 64 by omega), if_pos c35], rfl⟩
            | exact x_zi dX3_take_51 ⟨by rw [if_pos hG, clz (show vj < 64 by omega), clz (show aj < 64 by omega), clz (show bj < 64 by omega), if_neg c35], rfl, rfl, rfl, by rw [if_pos hG, clz (show vj < 64 by omega), clz (show aj < 64 by omega), clz (show bj < 64 by omega), if_neg c35], by rw [if_pos hG, clz (show vj < 64 by omega), clz (show aj < 64 by omega), clz (show bj < 64 by omega), if_neg c35], rfl⟩
        · rw [cmp_eq, it_0] at c35
          refine x_bipush (v := (-2)) dX3_take_38 (by decide +kernel) ?_
          refine x_goto 51 dX3_take_40 (by decide) ?_
          first
            | exact x_zi dX3_take_51 ⟨by rw [if_pos hG, clz (show vj < 64 by omega), clz (show aj < 64 by omega), clz (show bj < 64 by omega), if_pos c35], rfl, rfl, rfl, by rw [if_pos hG, clz (show vj < 64 by omega), clz (show aj < 64 by omega), clz (show bj < 64 by omega), if_pos c35], by rw [if_pos hG, clz (show vj < 64 by omega), clz (show aj < 64 by omega), clz (show bj < 64 by omega), if_pos c35], rfl⟩
            | exact x_zi dX3_take_51 ⟨by rw [if_pos hG, clz (show vj < 64 by omega), clz (show aj < 64 by omega), clz (show bj < 64 by omega), if_neg c35], rfl, rfl, rfl, by rw [if_pos hG, clz (show vj < 64 by omega), clz (show aj < 64 by omega), clz (show bj < 64 by omega), if_neg c35], by rw [if_pos hG, clz (show vj < 64 by omega), clz (show aj < 64 by omega), clz (show bj < 64 by omega), if_neg c35], rfl⟩
      · rw [bI_e0] at c21
        refine x_iconst (v := (-1)) dX3_take_24 (by decide +kernel) ?_
        exact x_zi dX3_take_25 ⟨by rw [if_neg (by rintro ⟨z1, z2, z3⟩; first | exact c5 z1 | exact c13 z2 | exact c21 z3)], rfl, rfl, rfl, by rw [if_neg (by rintro ⟨z1, z2, z3⟩; first | exact c5 z1 | exact c13 z2 | exact c21 z3)], by rw [if_neg (by rintro ⟨z1, z2, z3⟩; first | exact c5 z1 | exact c13 z2 | exact c21 z3)], rfl⟩
theorem in01 {a : Int32} (h : ¬ a < 0 ∧ ¬ 1 < a) : ∃ c, c < 2 ∧ a = nI c := by
  obtain ⟨j, hj, rfl⟩ := nI_of h.1
  refine ⟨j, ?_, rfl⟩
  rcases Nat.lt_or_ge j 2 with q | q
  · exact q
  · exact absurd (show nI 1 < nI j from nI_lt (by omega) hj) h.2
theorem itm_c {J : Nat → Nat → Int64} {m v n c : Nat} : itm J m v n (64 + c) = J (m + 2) (128 * v + 64 * c + n) := by rw [itm, if_neg (by omega), show 64 + c - 64 = c by omega]
set_option maxHeartbeats 4000000 in
theorem c_X3_set (l : Launch) (D : va_G) {K N : Nat → Nat} {R : Nat → Nat → Nat} {I : Nat → Nat → Int32} {J : Nat → Nat → Int64} {sz : Nat} {m : Nat} (mw : MW m K N R) {nv nn : Nat} (h4 : I m 4 = nI nv) (hnv : nv ≤ 60) (h0 : I m 0 = nI nn) (hnn : nn ≤ 64) (v a b : Int32) (x : Int64) {s : Nat} (h1 : I m 1 = nI s) (hs0 : 0 < nn → 0 < s) (hs : s ≤ 64) : XM l D yX3_set cX3_set 6 (some .int) 2 0 0 [.ref m, .int v, .int a, .int b, .long x] K N R I J sz (Zx (some (.int (if pV I m nv v ∧ (¬ a < 0 ∧ ¬ 1 < a) ∧ pN nn b then chA nv else -1))) K N R (if pV I m nv v ∧ (¬ a < 0 ∧ ¬ 1 < a) ∧ pN nn b then chI I m v.toNatClampNeg nv (b.toNatClampNeg / s) (J (m + 2) (128 * v.toNatClampNeg + 64 * a.toNatClampNeg + b.toNatClampNeg) != x) else I) (if pV I m nv v ∧ (¬ a < 0 ∧ ¬ 1 < a) ∧ pN nn b then chJ J m v.toNatClampNeg nv b.toNatClampNeg (64 + a.toNatClampNeg) x (J (m + 2) (128 * v.toNatClampNeg + 64 * a.toNatClampNeg + b.toNatClampNeg) != x) else J) sz) := by
  refine XM.of (own := RX3) (nm := "set") (by decide +kernel) rfl rfl (by simp [xla, Value.category]) [.ref m, .int v, .int a, .int b, .long x, .null] rfl (Zx.rt ⟨_, rfl⟩) ?_
  refine x_aload_n dX3_set_0 rfl ?_
  refine x_iload_n dX3_set_1 rfl ?_
  refine x_eV (c_X3_isVersion l D mw h4 hnv _) dX3_set_2 lk_X3_106 im_X3_isVersion se_X3_isVersion cd_X3_isVersion (by decide) mw.k vcX3 rfl (by decide) rfl (by decide) ?_
  refine x_if_eq 25 dX3_set_5 (by decide) (fun c5 => ?_) (fun c5 => ?_)
  · rw [bI_e0] at c5
    refine x_iconst (v := (-1)) dX3_set_25 (by decide +kernel) ?_
    exact x_zi dX3_set_26 ⟨by rw [if_neg (by rintro ⟨z1, z2, z3⟩; first | exact c5 z1 | exact c14 z2 | exact c22 z3)], rfl, rfl, rfl, by rw [if_neg (by rintro ⟨z1, z2, z3⟩; first | exact c5 z1 | exact c14 z2 | exact c22 z3)], by rw [if_neg (by rintro ⟨z1, z2, z3⟩; first | exact c5 z1 | exact c14 z2 | exact c22 z3)], rfl⟩
  · rw [bI_n0] at c5
    obtain ⟨vj, hvj, rfl⟩ := pN_ex c5.1
    refine x_iload_n dX3_set_8 rfl ?_
    refine x_iconst (v := (0)) dX3_set_9 (by decide +kernel) ?_
    refine x_iconst (v := (1)) dX3_set_10 (by decide +kernel) ?_
    refine x_eS (c_X3_isIn l D _ _ _) dX3_set_11 lk_X3_55 st_X3_isIn cd_X3_isIn rfl (by decide) rfl (by decide) ?_
    refine x_if_eq 25 dX3_set_14 (by decide) (fun c14 => ?_) (fun c14 => ?_)
    · rw [bI_e0] at c14
      refine x_iconst (v := (-1)) dX3_set_25 (by decide +kernel) ?_
      exact x_zi dX3_set_26 ⟨by rw [if_neg (by rintro ⟨z1, z2, z3⟩; first | exact c5 z1 | exact c14 z2 | exact c22 z3)], rfl, rfl, rfl, by rw [if_neg (by rintro ⟨z1, z2, z3⟩; first | exact c5 z1 | exact c14 z2 | exact c22 z3)], by rw [if_neg (by rintro ⟨z1, z2, z3⟩; first | exact c5 z1 | exact c14 z2 | exact c22 z3)], rfl⟩
    · rw [bI_n0] at c14
      obtain ⟨aj, haj, rfl⟩ := in01 c14
      refine x_aload_n dX3_set_17 rfl ?_
      refine x_iload_n dX3_set_18 rfl ?_
      refine x_eV (c_X3_isNode l D mw h0 hnn _) dX3_set_19 lk_X3_110 im_X3_isNode se_X3_isNode cd_X3_isNode (by decide) mw.k vcX3 rfl (by decide) rfl (by decide) ?_
      refine x_if_ne 27 dX3_set_22 (by decide) (fun c22 => ?_) (fun c22 => ?_)
      · rw [bI_n0] at c22
        obtain ⟨bj, hbj, rfl⟩ := pN_ex c22
        refine x_aload_n dX3_set_27 rfl ?_
        refine x_iload_n dX3_set_28 rfl ?_
        refine x_iload_n dX3_set_29 rfl ?_
        refine x_iconst (v := (-1)) dX3_set_30 (by decide +kernel) ?_
        refine x_iload_n dX3_set_31 rfl ?_
        refine x_isub dX3_set_32 ?_
        refine x_lload dX3_set_33 rfl ?_
        refine x_eqs (st' := [.long x, .int (tN (64 + aj)), .int (nI bj), .int (nI vj), .ref m]) (by rw [tN_c haj]) ?_
        refine x_eV (c_X3_changes l D mw (s := s) (x := x) (v := vj) (n := bj) (c := 64 + aj) h4 hnv hvj (by omega) (by omega) h1 (hs0 (by omega)) hs) dX3_set_35 lk_X3_113 im_X3_changes se_X3_changes cd_X3_changes (by decide) mw.k vcX3 rfl (by decide) rfl (by decide) ?_
        have hG : pV I m nv (nI vj) ∧ (¬ nI aj < 0 ∧ ¬ 1 < nI aj) ∧ pN nn (nI bj) := ⟨c5, c14, c22⟩
        exact x_zi dX3_set_38 ⟨by rw [if_pos hG], rfl, rfl, rfl, by rw [if_pos hG, clz (show vj < 64 by omega), clz (show aj < 64 by omega), clz (show bj < 64 by omega), itm_c], by rw [if_pos hG, clz (show vj < 64 by omega), clz (show aj < 64 by omega), clz (show bj < 64 by omega), itm_c], rfl⟩
      · rw [bI_e0] at c22
        refine x_iconst (v := (-1)) dX3_set_25 (by decide +kernel) ?_
        exact x_zi dX3_set_26 ⟨by rw [if_neg (by rintro ⟨z1, z2, z3⟩; first | exact c5 z1 | exact c14 z2 | exact c22 z3)], rfl, rfl, rfl, by rw [if_neg (by rintro ⟨z1, z2, z3⟩; first | exact c5 z1 | exact c14 z2 | exact c22 z3)], by rw [if_neg (by rintro ⟨z1, z2, z3⟩; first | exact c5 z1 | exact c14 z2 | exact c22 z3)], rfl⟩
set_option maxHeartbeats 4000000 in
theorem c_X3_at (l : Launch) (D : va_G) {K N : Nat → Nat} {R : Nat → Nat → Nat} {I : Nat → Nat → Int32} {J : Nat → Nat → Int64} {sz : Nat} {m : Nat} (mw : MW m K N R) {nv nn : Nat} (h4 : I m 4 = nI nv) (hnv : nv ≤ 60) (h0 : I m 0 = nI nn) (hnn : nn ≤ 64) (v a b : Int32) : XM l D yX3_at cX3_at 4 (some .long) 2 0 0 [.ref m, .int v, .int a, .int b] K N R I J sz (Zx (some (.long (if pV I m nv v ∧ (¬ a < 0 ∧ ¬ 1 < a) ∧ pN nn b then J (m + 2) (128 * v.toNatClampNeg + 64 * a.toNatClampNeg + b.toNatClampNeg) else 0))) K N R I J sz) := by
  refine XM.of (own := RX3) (nm := "at") (by decide +kernel) rfl rfl (by simp [xla, Value.category]) [.ref m, .int v, .int a, .int b] rfl (Zx.rt ⟨_, rfl⟩) ?_
  refine x_aload_n dX3_at_0 rfl ?_
  refine x_iload_n dX3_at_1 rfl ?_
  refine x_eV (c_X3_isVersion l D mw h4 hnv _) dX3_at_2 lk_X3_106 im_X3_isVersion se_X3_isVersion cd_X3_isVersion (by decide) mw.k vcX3 rfl (by decide) rfl (by decide) ?_
  refine x_if_eq 37 dX3_at_5 (by decide) (fun c5 => ?_) (fun c5 => ?_)
  · rw [bI_e0] at c5
    refine x_lconst (v := 0) dX3_at_37 (by decide +kernel) ?_
    first
      | exact x_rl dX3_at_38 (by rw [if_pos ⟨c5, c14, c22⟩, clz (show vj < 64 by omega), clz (show aj < 64 by omega), clz (show bj < 64 by omega), itm_c])
      | exact x_rl dX3_at_38 (by rw [if_neg (fun z => c5 z.1)])
      | exact x_rl dX3_at_38 (by rw [if_neg (fun z => c14 z.2.1)])
      | exact x_rl dX3_at_38 (by rw [if_neg (fun z => c22 z.2.2)])
  · rw [bI_n0] at c5
    obtain ⟨vj, hvj, rfl⟩ := pN_ex c5.1
    refine x_iload_n dX3_at_8 rfl ?_
    refine x_iconst (v := (0)) dX3_at_9 (by decide +kernel) ?_
    refine x_iconst (v := (1)) dX3_at_10 (by decide +kernel) ?_
    refine x_eS (c_X3_isIn l D _ _ _) dX3_at_11 lk_X3_55 st_X3_isIn cd_X3_isIn rfl (by decide) rfl (by decide) ?_
    refine x_if_eq 37 dX3_at_14 (by decide) (fun c14 => ?_) (fun c14 => ?_)
    · rw [bI_e0] at c14
      refine x_lconst (v := 0) dX3_at_37 (by decide +kernel) ?_
      first
        | exact x_rl dX3_at_38 (by rw [if_pos ⟨c5, c14, c22⟩, clz (show vj < 64 by omega), clz (show aj < 64 by omega), clz (show bj < 64 by omega), itm_c])
        | exact x_rl dX3_at_38 (by rw [if_neg (fun z => c5 z.1)])
        | exact x_rl dX3_at_38 (by rw [if_neg (fun z => c14 z.2.1)])
        | exact x_rl dX3_at_38 (by rw [if_neg (fun z => c22 z.2.2)])
    · rw [bI_n0] at c14
      obtain ⟨aj, haj, rfl⟩ := in01 c14
      refine x_aload_n dX3_at_17 rfl ?_
      refine x_iload_n dX3_at_18 rfl ?_
      refine x_eV (c_X3_isNode l D mw h0 hnn _) dX3_at_19 lk_X3_110 im_X3_isNode se_X3_isNode cd_X3_isNode (by decide) mw.k vcX3 rfl (by decide) rfl (by decide) ?_
      refine x_if_eq 37 dX3_at_22 (by decide) (fun c22 => ?_) (fun c22 => ?_)
      · rw [bI_e0] at c22
        refine x_lconst (v := 0) dX3_at_37 (by decide +kernel) ?_
        first
          | exact x_rl dX3_at_38 (by rw [if_pos ⟨c5, c14, c22⟩, clz (show vj < 64 by omega), clz (show aj < 64 by omega), clz (show bj < 64 by omega), itm_c])
          | exact x_rl dX3_at_38 (by rw [if_neg (fun z => c5 z.1)])
          | exact x_rl dX3_at_38 (by rw [if_neg (fun z => c14 z.2.1)])
          | exact x_rl dX3_at_38 (by rw [if_neg (fun z => c22 z.2.2)])
      · rw [bI_n0] at c22
        obtain ⟨bj, hbj, rfl⟩ := pN_ex c22
        refine x_aload_n dX3_at_25 rfl ?_
        refine x_iload_n dX3_at_26 rfl ?_
        refine x_iload_n dX3_at_27 rfl ?_
        refine x_iconst (v := (-1)) dX3_at_28 (by decide +kernel) ?_
        refine x_iload_n dX3_at_29 rfl ?_
        refine x_isub dX3_at_30 ?_
        refine x_eqs (st' := [.int (tN (64 + aj)), .int (nI bj), .int (nI vj), .ref m]) (by rw [tN_c haj]) ?_
        refine x_eV (c_X3_item l D mw (v := vj) (n := bj) (c := 64 + aj) (by omega) (by omega) (by omega)) dX3_at_31 lk_X3_91 im_X3_item se_X3_item cd_X3_item (by decide) mw.k vcX3 rfl (by decide) rfl (by decide) ?_
        refine x_goto 38 dX3_at_34 (by decide) ?_
        first
          | exact x_rl dX3_at_38 (by rw [if_pos ⟨c5, c14, c22⟩, clz (show vj < 64 by omega), clz (show aj < 64 by omega), clz (show bj < 64 by omega), itm_c])
          | exact x_rl dX3_at_38 (by rw [if_neg (fun z => c5 z.1)])
          | exact x_rl dX3_at_38 (by rw [if_neg (fun z => c14 z.2.1)])
          | exact x_rl dX3_at_38 (by rw [if_neg (fun z => c22 z.2.2)])
set_option maxHeartbeats 4000000 in
theorem c_X3_chunk (l : Launch) (D : va_G) {K N : Nat → Nat} {R : Nat → Nat → Nat} {I : Nat → Nat → Int32} {J : Nat → Nat → Int64} {sz : Nat} {m : Nat} (mw : MW m K N R) {nv nc : Nat} (h4 : I m 4 = nI nv) (hnv : nv ≤ 60) (h2 : I m 2 = nI nc) (hnc : nc ≤ 64) (v a : Int32) : XM l D yX3_chunk cX3_chunk 3 (some .int) 2 0 0 [.ref m, .int v, .int a] K N R I J sz (Zx (some (.int (if pV I m nv v then (if pN nc a then I (m + 3) (64 * v.toNatClampNeg + a.toNatClampNeg) else -99999999) else -1))) K N R I J sz) := by
  refine XM.of (own := RX3) (nm := "chunk") (by decide +kernel) rfl rfl (by simp [xla, Value.category]) [.ref m, .int v, .int a] rfl (Zx.rt ⟨_, rfl⟩) ?_
  refine x_aload_n dX3_chunk_0 rfl ?_
  refine x_iload_n dX3_chunk_1 rfl ?_
  refine x_eV (c_X3_isVersion l D mw h4 hnv _) dX3_chunk_2 lk_X3_106 im_X3_isVersion se_X3_isVersion cd_X3_isVersion (by decide) mw.k vcX3 rfl (by decide) rfl (by decide) ?_
  refine x_if_ne 10 dX3_chunk_5 (by decide) (fun c5 => ?_) (fun c5 => ?_)
  · rw [bI_n0] at c5
    obtain ⟨vj, hvj, rfl⟩ := pN_ex c5.1
    refine x_iload_n dX3_chunk_10 rfl ?_
    refine x_iconst (v := (0)) dX3_chunk_11 (by decide +kernel) ?_
    refine x_aload_n dX3_chunk_12 rfl ?_
    refine x_geti dX3_chunk_13 fl_X3_65 mw.k rfl ?_
    refine x_iconst (v := (1)) dX3_chunk_16 (by decide +kernel) ?_
    refine x_isub dX3_chunk_17 ?_
    refine x_eS (c_X3_isIn l D _ _ _) dX3_chunk_18 lk_X3_55 st_X3_isIn cd_X3_isIn rfl (by decide) rfl (by decide) ?_
    rw [h2, bI_congr (pIn_pN (n := nc) (v := a) (by omega))]
    refine x_if_eq 38 dX3_chunk_21 (by decide) (fun c21 => ?_) (fun c21 => ?_)
    · rw [bI_e0] at c21
      refine x_ldc dX3_chunk_38 ki_X3_68 ?_
      first
        | exact x_ri dX3_chunk_40 (by rw [if_pos c5, if_pos c21, clz (show vj < 64 by omega), clz (show aj < 64 by omega)])
        | exact x_ri dX3_chunk_40 (by rw [if_pos c5, if_neg c21])
    · rw [bI_n0] at c21
      obtain ⟨aj, haj, rfl⟩ := pN_ex c21
      refine x_aload_n dX3_chunk_24 rfl ?_
      refine x_getq dX3_chunk_25 fl_X3_16 mw.k mw.r8 rfl ?_
      refine x_bipush (v := (nI 64)) dX3_chunk_28 (by decide +kernel) ?_
      refine x_iload_n dX3_chunk_30 rfl ?_
      refine x_imul dX3_chunk_31 ?_
      refine x_iload_n dX3_chunk_32 rfl ?_
      refine x_iadd dX3_chunk_33 ?_
      refine x_iald (64 * vj + aj) dX3_chunk_34 mw.k8 mw.n8 (by rw [pk_mul, nI_add]) (by omega) (by decide) ?_
      refine x_goto 40 dX3_chunk_35 (by decide) ?_
      first
        | exact x_ri dX3_chunk_40 (by rw [if_pos c5, if_pos c21, clz (show vj < 64 by omega), clz (show aj < 64 by omega)])
        | exact x_ri dX3_chunk_40 (by rw [if_pos c5, if_neg c21])
  · rw [bI_e0] at c5
    refine x_iconst (v := (-1)) dX3_chunk_8 (by decide +kernel) ?_
    exact x_ri dX3_chunk_9 (by rw [if_neg c5])
set_option maxHeartbeats 4000000 in
theorem c_X3_parent (l : Launch) (D : va_G) {K N : Nat → Nat} {R : Nat → Nat → Nat} {I : Nat → Nat → Int32} {J : Nat → Nat → Int64} {sz : Nat} {m : Nat} (mw : MW m K N R) {nv : Nat} (h4 : I m 4 = nI nv) (hnv : nv ≤ 60) (v : Int32) : XM l D yX3_parent cX3_parent 2 (some .int) 1 0 0 [.ref m, .int v] K N R I J sz (Zx (some (.int (if pN nv v then I (m + 4) v.toNatClampNeg else -1))) K N R I J sz) := by
  refine XM.of (own := RX3) (nm := "parent") (by decide +kernel) rfl rfl (by simp [xla, Value.category]) [.ref m, .int v] rfl (Zx.rt ⟨_, rfl⟩) ?_
  refine x_iload_n dX3_parent_0 rfl ?_
  refine x_iconst (v := (0)) dX3_parent_1 (by decide +kernel) ?_
  refine x_aload_n dX3_parent_2 rfl ?_
  refine x_geti dX3_parent_3 fl_X3_51 mw.k rfl ?_
  refine x_iconst (v := (1)) dX3_parent_6 (by decide +kernel) ?_
  refine x_isub dX3_parent_7 ?_
  refine x_eS (c_X3_isIn l D _ _ _) dX3_parent_8 lk_X3_55 st_X3_isIn cd_X3_isIn rfl (by decide) rfl (by decide) ?_
  rw [h4, bI_congr (pIn_pN (n := nv) (v := v) (by omega))]
  refine x_if_eq 23 dX3_parent_11 (by decide) (fun c11 => ?_) (fun c11 => ?_)
  · rw [bI_e0] at c11
    refine x_iconst (v := (-1)) dX3_parent_23 (by decide +kernel) ?_
    first
      | exact x_ri dX3_parent_24 (by rw [if_pos c11, clz (show vj < 64 by omega)])
      | exact x_ri dX3_parent_24 (by rw [if_neg c11])
  · rw [bI_n0] at c11
    obtain ⟨vj, hvj, rfl⟩ := pN_ex c11
    refine x_aload_n dX3_parent_14 rfl ?_
    refine x_getq dX3_parent_15 fl_X3_20 mw.k mw.r9 rfl ?_
    refine x_iload_n dX3_parent_18 rfl ?_
    refine x_iald _ dX3_parent_19 mw.k9 mw.n9 rfl (by omega) (by decide) ?_
    refine x_goto 24 dX3_parent_20 (by decide) ?_
    first
      | exact x_ri dX3_parent_24 (by rw [if_pos c11, clz (show vj < 64 by omega)])
      | exact x_ri dX3_parent_24 (by rw [if_neg c11])
set_option maxHeartbeats 4000000 in
theorem c_X3_row (l : Launch) (D : va_G) {K N : Nat → Nat} {R : Nat → Nat → Nat} {I : Nat → Nat → Int32} {J : Nat → Nat → Int64} {sz : Nat} {m : Nat} (mw : MW m K N R) {rm : Nat} (hr : I m 13 = nI rm) (hrm : rm ≤ 4224) (v a : Int32) : XM l D yX3_row cX3_row 3 (some .int) 1 0 0 [.ref m, .int v, .int a] K N R I J sz (Zx (some (.int (if pN rm v ∧ (¬ a < 0 ∧ ¬ 1 < a) then (if a = 0 then I (m + 7) v.toNatClampNeg else I (m + 8) v.toNatClampNeg) else -99999999))) K N R I J sz) := by
  refine XM.of (own := RX3) (nm := "row") (by decide +kernel) rfl rfl (by simp [xla, Value.category]) [.ref m, .int v, .int a] rfl (Zx.rt ⟨_, rfl⟩) ?_
  refine x_iload_n dX3_row_0 rfl ?_
  refine x_iconst (v := (0)) dX3_row_1 (by decide +kernel) ?_
  refine x_aload_n dX3_row_2 rfl ?_
  refine x_geti dX3_row_3 fl_X3_79 mw.k rfl ?_
  refine x_iconst (v := (1)) dX3_row_6 (by decide +kernel) ?_
  refine x_isub dX3_row_7 ?_
  refine x_eS (c_X3_isIn l D _ _ _) dX3_row_8 lk_X3_55 st_X3_isIn cd_X3_isIn rfl (by decide) rfl (by decide) ?_
  rw [hr, bI_congr (pIn_pN (n := rm) (v := v) (by omega))]
  refine x_if_eq 45 dX3_row_11 (by decide) (fun c11 => ?_) (fun c11 => ?_)
  · rw [bI_e0] at c11
    refine x_ldc dX3_row_45 ki_X3_68 ?_
    first
      | exact x_ri dX3_row_47 (by rw [if_pos ⟨c11, c20⟩, if_pos c24, hcl])
      | exact x_ri dX3_row_47 (by rw [if_pos ⟨c11, c20⟩, if_neg c24, hcl])
      | exact x_ri dX3_row_47 (by rw [if_neg (fun z => c11 z.1)])
      | exact x_ri dX3_row_47 (by rw [if_neg (fun z => c20 z.2)])
  · rw [bI_n0] at c11
    obtain ⟨vj, hvj, rfl⟩ := pN_ex c11
    have hcl : (nI vj).toNatClampNeg = vj := nI_clamp (by omega)
    refine x_iload_n dX3_row_14 rfl ?_
    refine x_iconst (v := (0)) dX3_row_15 (by decide +kernel) ?_
    refine x_iconst (v := (1)) dX3_row_16 (by decide +kernel) ?_
    refine x_eS (c_X3_isIn l D _ _ _) dX3_row_17 lk_X3_55 st_X3_isIn cd_X3_isIn rfl (by decide) rfl (by decide) ?_
    refine x_if_eq 45 dX3_row_20 (by decide) (fun c20 => ?_) (fun c20 => ?_)
    · rw [bI_e0] at c20
      refine x_ldc dX3_row_45 ki_X3_68 ?_
      first
        | exact x_ri dX3_row_47 (by rw [if_pos ⟨c11, c20⟩, if_pos c24, hcl])
        | exact x_ri dX3_row_47 (by rw [if_pos ⟨c11, c20⟩, if_neg c24, hcl])
        | exact x_ri dX3_row_47 (by rw [if_neg (fun z => c11 z.1)])
        | exact x_ri dX3_row_47 (by rw [if_neg (fun z => c20 z.2)])
    · rw [bI_n0] at c20
      refine x_iload_n dX3_row_23 rfl ?_
      refine x_if_ne 36 dX3_row_24 (by decide) (fun c24 => ?_) (fun c24 => ?_)
      · refine x_aload_n dX3_row_36 rfl ?_
        refine x_getq dX3_row_37 fl_X3_33 mw.k mw.r15 rfl ?_
        refine x_iload_n dX3_row_40 rfl ?_
        refine x_iald _ dX3_row_41 mw.k15 mw.n15 rfl (by omega) (by decide) ?_
        refine x_goto 47 dX3_row_42 (by decide) ?_
        first
          | exact x_ri dX3_row_47 (by rw [if_pos ⟨c11, c20⟩, if_pos c24, hcl])
          | exact x_ri dX3_row_47 (by rw [if_pos ⟨c11, c20⟩, if_neg c24, hcl])
          | exact x_ri dX3_row_47 (by rw [if_neg (fun z => c11 z.1)])
          | exact x_ri dX3_row_47 (by rw [if_neg (fun z => c20 z.2)])
      · refine x_aload_n dX3_row_27 rfl ?_
        refine x_getq dX3_row_28 fl_X3_30 mw.k mw.r14 rfl ?_
        refine x_iload_n dX3_row_31 rfl ?_
        refine x_iald _ dX3_row_32 mw.k14 mw.n14 rfl (by omega) (by decide) ?_
        refine x_goto 47 dX3_row_33 (by decide) ?_
        first
          | exact x_ri dX3_row_47 (by rw [if_pos ⟨c11, c20⟩, if_pos c24, hcl])
          | exact x_ri dX3_row_47 (by rw [if_pos ⟨c11, c20⟩, if_neg c24, hcl])
          | exact x_ri dX3_row_47 (by rw [if_neg (fun z => c11 z.1)])
          | exact x_ri dX3_row_47 (by rw [if_neg (fun z => c20 z.2)])
set_option maxHeartbeats 4000000 in
theorem c_X3_was (l : Launch) (D : va_G) {K N : Nat → Nat} {R : Nat → Nat → Nat} {I : Nat → Nat → Int32} {J : Nat → Nat → Int64} {sz : Nat} {m : Nat} (mw : MW m K N R) {rm : Nat} (hr : I m 13 = nI rm) (hrm : rm ≤ 4224) (v a : Int32) : XM l D yX3_was cX3_was 3 (some .long) 1 0 0 [.ref m, .int v, .int a] K N R I J sz (Zx (some (.long (if pN rm v ∧ (¬ a < 0 ∧ ¬ 1 < a) then (if a = 0 then J (m + 9) v.toNatClampNeg else J (m + 10) v.toNatClampNeg) else 0))) K N R I J sz) := by
  refine XM.of (own := RX3) (nm := "was") (by decide +kernel) rfl rfl (by simp [xla, Value.category]) [.ref m, .int v, .int a] rfl (Zx.rt ⟨_, rfl⟩) ?_
  refine x_iload_n dX3_was_0 rfl ?_
  refine x_iconst (v := (0)) dX3_was_1 (by decide +kernel) ?_
  refine x_aload_n dX3_was_2 rfl ?_
  refine x_geti dX3_was_3 fl_X3_79 mw.k rfl ?_
  refine x_iconst (v := (1)) dX3_was_6 (by decide +kernel) ?_
  refine x_isub dX3_was_7 ?_
  refine x_eS (c_X3_isIn l D _ _ _) dX3_was_8 lk_X3_55 st_X3_isIn cd_X3_isIn rfl (by decide) rfl (by decide) ?_
  rw [hr, bI_congr (pIn_pN (n := rm) (v := v) (by omega))]
  refine x_if_eq 45 dX3_was_11 (by decide) (fun c11 => ?_) (fun c11 => ?_)
  · rw [bI_e0] at c11
    refine x_lconst (v := 0) dX3_was_45 (by decide +kernel) ?_
    first
      | exact x_rl dX3_was_46 (by rw [if_pos ⟨c11, c20⟩, if_pos c24, hcl])
      | exact x_rl dX3_was_46 (by rw [if_pos ⟨c11, c20⟩, if_neg c24, hcl])
      | exact x_rl dX3_was_46 (by rw [if_neg (fun z => c11 z.1)])
      | exact x_rl dX3_was_46 (by rw [if_neg (fun z => c20 z.2)])
  · rw [bI_n0] at c11
    obtain ⟨vj, hvj, rfl⟩ := pN_ex c11
    have hcl : (nI vj).toNatClampNeg = vj := nI_clamp (by omega)
    refine x_iload_n dX3_was_14 rfl ?_
    refine x_iconst (v := (0)) dX3_was_15 (by decide +kernel) ?_
    refine x_iconst (v := (1)) dX3_was_16 (by decide +kernel) ?_
    refine x_eS (c_X3_isIn l D _ _ _) dX3_was_17 lk_X3_55 st_X3_isIn cd_X3_isIn rfl (by decide) rfl (by decide) ?_
    refine x_if_eq 45 dX3_was_20 (by decide) (fun c20 => ?_) (fun c20 => ?_)
    · rw [bI_e0] at c20
      refine x_lconst (v := 0) dX3_was_45 (by decide +kernel) ?_
      first
        | exact x_rl dX3_was_46 (by rw [if_pos ⟨c11, c20⟩, if_pos c24, hcl])
        | exact x_rl dX3_was_46 (by rw [if_pos ⟨c11, c20⟩, if_neg c24, hcl])
        | exact x_rl dX3_was_46 (by rw [if_neg (fun z => c11 z.1)])
        | exact x_rl dX3_was_46 (by rw [if_neg (fun z => c20 z.2)])
    · rw [bI_n0] at c20
      refine x_iload_n dX3_was_23 rfl ?_
      refine x_if_ne 36 dX3_was_24 (by decide) (fun c24 => ?_) (fun c24 => ?_)
      · refine x_aload_n dX3_was_36 rfl ?_
        refine x_getq dX3_was_37 fl_X3_39 mw.k mw.r17 rfl ?_
        refine x_iload_n dX3_was_40 rfl ?_
        refine x_lald _ dX3_was_41 mw.k17 mw.n17 rfl (by omega) (by decide) ?_
        refine x_goto 46 dX3_was_42 (by decide) ?_
        first
          | exact x_rl dX3_was_46 (by rw [if_pos ⟨c11, c20⟩, if_pos c24, hcl])
          | exact x_rl dX3_was_46 (by rw [if_pos ⟨c11, c20⟩, if_neg c24, hcl])
          | exact x_rl dX3_was_46 (by rw [if_neg (fun z => c11 z.1)])
          | exact x_rl dX3_was_46 (by rw [if_neg (fun z => c20 z.2)])
      · refine x_aload_n dX3_was_27 rfl ?_
        refine x_getq dX3_was_28 fl_X3_36 mw.k mw.r16 rfl ?_
        refine x_iload_n dX3_was_31 rfl ?_
        refine x_lald _ dX3_was_32 mw.k16 mw.n16 rfl (by omega) (by decide) ?_
        refine x_goto 46 dX3_was_33 (by decide) ?_
        first
          | exact x_rl dX3_was_46 (by rw [if_pos ⟨c11, c20⟩, if_pos c24, hcl])
          | exact x_rl dX3_was_46 (by rw [if_pos ⟨c11, c20⟩, if_neg c24, hcl])
          | exact x_rl dX3_was_46 (by rw [if_neg (fun z => c11 z.1)])
          | exact x_rl dX3_was_46 (by rw [if_neg (fun z => c20 z.2)])
set_option maxHeartbeats 4000000 in
theorem c_X3_conflict (l : Launch) (D : va_G) {K N : Nat → Nat} {R : Nat → Nat → Nat} {I : Nat → Nat → Int32} {J : Nat → Nat → Int64} {sz : Nat} {m : Nat} (mw : MW m K N R) {rm : Nat} (hr : I m 18 = nI rm) (hrm : rm ≤ 4224) (v a : Int32) : XM l D yX3_conflict cX3_conflict 3 (some .int) 1 0 0 [.ref m, .int v, .int a] K N R I J sz (Zx (some (.int (if pN rm v ∧ (¬ a < 0 ∧ ¬ 1 < a) then (if a = 0 then I (m + 11) v.toNatClampNeg else I (m + 12) v.toNatClampNeg) else -99999999))) K N R I J sz) := by
  refine XM.of (own := RX3) (nm := "conflict") (by decide +kernel) rfl rfl (by simp [xla, Value.category]) [.ref m, .int v, .int a] rfl (Zx.rt ⟨_, rfl⟩) ?_
  refine x_iload_n dX3_conflict_0 rfl ?_
  refine x_iconst (v := (0)) dX3_conflict_1 (by decide +kernel) ?_
  refine x_aload_n dX3_conflict_2 rfl ?_
  refine x_geti dX3_conflict_3 fl_X3_82 mw.k rfl ?_
  refine x_iconst (v := (1)) dX3_conflict_6 (by decide +kernel) ?_
  refine x_isub dX3_conflict_7 ?_
  refine x_eS (c_X3_isIn l D _ _ _) dX3_conflict_8 lk_X3_55 st_X3_isIn cd_X3_isIn rfl (by decide) rfl (by decide) ?_
  rw [hr, bI_congr (pIn_pN (n := rm) (v := v) (by omega))]
  refine x_if_eq 45 dX3_conflict_11 (by decide) (fun c11 => ?_) (fun c11 => ?_)
  · rw [bI_e0] at c11
    refine x_ldc dX3_conflict_45 ki_X3_68 ?_
    first
      | exact x_ri dX3_conflict_47 (by rw [if_pos ⟨c11, c20⟩, if_pos c24, hcl])
      | exact x_ri dX3_conflict_47 (by rw [if_pos ⟨c11, c20⟩, if_neg c24, hcl])
      | exact x_ri dX3_conflict_47 (by rw [if_neg (fun z => c11 z.1)])
      | exact x_ri dX3_conflict_47 (by rw [if_neg (fun z => c20 z.2)])
  · rw [bI_n0] at c11
    obtain ⟨vj, hvj, rfl⟩ := pN_ex c11
    have hcl : (nI vj).toNatClampNeg = vj := nI_clamp (by omega)
    refine x_iload_n dX3_conflict_14 rfl ?_
    refine x_iconst (v := (0)) dX3_conflict_15 (by decide +kernel) ?_
    refine x_iconst (v := (1)) dX3_conflict_16 (by decide +kernel) ?_
    refine x_eS (c_X3_isIn l D _ _ _) dX3_conflict_17 lk_X3_55 st_X3_isIn cd_X3_isIn rfl (by decide) rfl (by decide) ?_
    refine x_if_eq 45 dX3_conflict_20 (by decide) (fun c20 => ?_) (fun c20 => ?_)
    · rw [bI_e0] at c20
      refine x_ldc dX3_conflict_45 ki_X3_68 ?_
      first
        | exact x_ri dX3_conflict_47 (by rw [if_pos ⟨c11, c20⟩, if_pos c24, hcl])
        | exact x_ri dX3_conflict_47 (by rw [if_pos ⟨c11, c20⟩, if_neg c24, hcl])
        | exact x_ri dX3_conflict_47 (by rw [if_neg (fun z => c11 z.1)])
        | exact x_ri dX3_conflict_47 (by rw [if_neg (fun z => c20 z.2)])
    · rw [bI_n0] at c20
      refine x_iload_n dX3_conflict_23 rfl ?_
      refine x_if_ne 36 dX3_conflict_24 (by decide) (fun c24 => ?_) (fun c24 => ?_)
      · refine x_aload_n dX3_conflict_36 rfl ?_
        refine x_getq dX3_conflict_37 fl_X3_45 mw.k mw.r20 rfl ?_
        refine x_iload_n dX3_conflict_40 rfl ?_
        refine x_iald _ dX3_conflict_41 mw.k20 mw.n20 rfl (by omega) (by decide) ?_
        refine x_goto 47 dX3_conflict_42 (by decide) ?_
        first
          | exact x_ri dX3_conflict_47 (by rw [if_pos ⟨c11, c20⟩, if_pos c24, hcl])
          | exact x_ri dX3_conflict_47 (by rw [if_pos ⟨c11, c20⟩, if_neg c24, hcl])
          | exact x_ri dX3_conflict_47 (by rw [if_neg (fun z => c11 z.1)])
          | exact x_ri dX3_conflict_47 (by rw [if_neg (fun z => c20 z.2)])
      · refine x_aload_n dX3_conflict_27 rfl ?_
        refine x_getq dX3_conflict_28 fl_X3_42 mw.k mw.r19 rfl ?_
        refine x_iload_n dX3_conflict_31 rfl ?_
        refine x_iald _ dX3_conflict_32 mw.k19 mw.n19 rfl (by omega) (by decide) ?_
        refine x_goto 47 dX3_conflict_33 (by decide) ?_
        first
          | exact x_ri dX3_conflict_47 (by rw [if_pos ⟨c11, c20⟩, if_pos c24, hcl])
          | exact x_ri dX3_conflict_47 (by rw [if_pos ⟨c11, c20⟩, if_neg c24, hcl])
          | exact x_ri dX3_conflict_47 (by rw [if_neg (fun z => c11 z.1)])
          | exact x_ri dX3_conflict_47 (by rw [if_neg (fun z => c20 z.2)])
