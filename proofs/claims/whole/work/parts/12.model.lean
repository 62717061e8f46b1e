/-! The reference: changes, the calls without loops -/
def frI (I : Nat → Nat → Int32) (m nv k : Nat) : Nat → Nat → Int32 := va_up (va_up I (m + 3) (va_up (I (m + 3)) (64 * nv + k) (I m 5))) m (va_up (I m) 5 (I m 5 + 1))
def mdI (I : Nat → Nat → Int32) (m : Nat) : Nat → Nat → Int32 := va_up I m (va_up (I m) 4 (I m 4 + 1))
theorem cpI2_m {I : Nat → Nat → Int32} {m fr nv : Nat} : cpI2 I m fr nv m = I m := by simp [cpI2, cpI, va_up]
theorem frI_m {I : Nat → Nat → Int32} {m nv k : Nat} : frI I m nv k m = va_up (I m) 5 (I m 5 + 1) := by simp [frI, va_up]
theorem itm_cp {J : Nat → Nat → Int64} {m v nv n c : Nat} (hv : v < nv) (hn : n < 64) (hc : c < 66) : itm (cpJ J m v nv 64) m v n c = itm J m v n c := by
  unfold itm
  by_cases h : c < 64
  · rw [if_pos h, if_pos h, cpJ_1, pk_cpy_out (by omega)]
  · rw [if_neg h, if_neg h, cpJ_2, pk_cpy_out (by omega), pk_cpy_out (by omega)]
theorem cmp_eq {x y : Int64} : lg_cmp x y = 0 ↔ x = y := by
  unfold lg_cmp
  by_cases h1 : x > y
  · rw [if_pos h1]
    exact ⟨fun h => absurd h (by decide), fun h => absurd h1 (by rw [h]; exact Int64.lt_irrefl)⟩
  · rw [if_neg h1]
    by_cases h2 : x = y
    · simp [h2]
    · simp [h2]
theorem idiv_n {n s : Nat} (hn : n < 64) (hs0 : 0 < s) (hs : s ≤ 64) : nI n / nI s = nI (n / s) := pk_div (by omega) hs0 (by omega)
def chA (nv : Nat) : Int32 := if nv = 60 then -3 else nI nv
def chI (I : Nat → Nat → Int32) (m v nv k : Nat) (b : Bool) : Nat → Nat → Int32 := if nv = 60 then I else mdI (if b then frI (cpI2 I m v nv) m nv k else cpI2 I m v nv) m
def chJ (J : Nat → Nat → Int64) (m v nv n c : Nat) (x : Int64) (b : Bool) : Nat → Nat → Int64 := if nv = 60 then J else if b then setm (cpJ J m v nv 64) m nv n c x else cpJ J m v nv 64
set_option maxHeartbeats 4000000 in
theorem c_X3_changes (l : Launch) (D : va_G) {K N : Nat → Nat} {R : Nat → Nat → Nat} {I : Nat → Nat → Int32} {J : Nat → Nat → Int64} {sz : Nat} {m : Nat} (mw : MW m K N R) {nv v n c s : Nat} {x : Int64} (h4 : I m 4 = nI nv) (hnv : nv ≤ 60) (hv : v < nv) (hn : n < 64) (hc : c < 66) (h1 : I m 1 = nI s) (hs0 : 0 < s) (hs : s ≤ 64) : XM l D yX3_changes cX3_changes 6 (some .int) 1 0 0 [.ref m, .int (nI v), .int (nI n), .int (tN c), .long x] K N R I J sz (Zx (some (.int (chA nv))) K N R (chI I m v nv (n / s) (itm J m v n c != x)) (chJ J m v nv n c x (itm J m v n c != x)) sz) := by
  refine XM.of (own := RX3) (nm := "changes") (by decide +kernel) rfl rfl (by simp [xla, Value.category]) [.ref m, .int (nI v), .int (nI n), .int (tN c), .long x, .null] rfl (Zx.rt ⟨_, rfl⟩) ?_
  refine x_aload_n dX3_changes_0 rfl ?_
  refine x_geti dX3_changes_1 fl_X3_51 mw.k rfl ?_
  refine x_bipush (v := (nI 60)) dX3_changes_4 (by decide +kernel) ?_
  refine x_icmp_ne 12 dX3_changes_6 (by decide) (fun c6 => ?_) (fun c6 => ?_)
  · have hlt : nv < 60 := by
      rcases Nat.lt_or_ge nv 60 with q | q
      · exact q
      · exact absurd (by rw [h4, show nv = 60 by omega]) c6
    have hne : ¬ nv = 60 := by omega
    refine x_aload_n dX3_changes_12 rfl ?_
    refine x_iload_n dX3_changes_13 rfl ?_
    refine x_eW (c_X3_copies l D mw h4 hv hlt) dX3_changes_14 lk_X3_87 im_X3_copies se_X3_copies cd_X3_copies (by decide) mw.k vcX3 rfl (by decide) rfl (by decide) ?_
    refine x_aload_n dX3_changes_17 rfl ?_
    refine x_iload_n dX3_changes_18 rfl ?_
    refine x_iload_n dX3_changes_19 rfl ?_
    refine x_iload_n dX3_changes_20 rfl ?_
    refine x_eV (c_X3_item l D mw (v := v) (n := n) (c := c) (by omega) hn hc) dX3_changes_21 lk_X3_91 im_X3_item se_X3_item cd_X3_item (by decide) mw.k vcX3 rfl (by decide) rfl (by decide) ?_
    rw [itm_cp hv hn hc]
    refine x_lload dX3_changes_24 rfl ?_
    refine x_lcmp dX3_changes_26 ?_
    refine x_if_eq 52 dX3_changes_27 (by decide) (fun c27 => ?_) (fun c27 => ?_)
    · rw [cmp_eq] at c27
      rw [show (itm J m v n c != x) = false by simp [c27]]
      refine x_aload_n dX3_changes_52 rfl ?_
      refine x_eV (c_X3_made l D mw) dX3_changes_53 lk_X3_102 im_X3_made se_X3_made cd_X3_made (by decide) mw.k vcX3 rfl (by decide) rfl (by decide) ?_
      exact x_zi dX3_changes_56 ⟨by simp [chA, hne, cpI2_m, frI, va_up, h4], rfl, rfl, rfl, by simp only [chI, if_neg hne]; rfl, by simp only [chJ, if_neg hne]; rfl, rfl⟩
    · rw [cmp_eq] at c27
      rw [show (itm J m v n c != x) = true by simp [c27]]
      refine x_aload_n dX3_changes_30 rfl ?_
      refine x_aload_n dX3_changes_31 rfl ?_
      refine x_geti dX3_changes_32 fl_X3_51 mw.k rfl ?_
      refine x_iload_n dX3_changes_35 rfl ?_
      refine x_iload_n dX3_changes_36 rfl ?_
      refine x_lload dX3_changes_37 rfl ?_
      rw [cpI2_m, h4]
      refine x_eW (c_X3_sets l D mw (v := nv) (n := n) (c := c) (by omega) hn hc) dX3_changes_39 lk_X3_95 im_X3_sets se_X3_sets cd_X3_sets (by decide) mw.k vcX3 rfl (by decide) rfl (by decide) ?_
      refine x_aload_n dX3_changes_42 rfl ?_
      refine x_iload_n dX3_changes_43 rfl ?_
      refine x_aload_n dX3_changes_44 rfl ?_
      refine x_geti dX3_changes_45 fl_X3_62 mw.k rfl ?_
      refine x_idiv dX3_changes_48 (by rw [cpI2_m, h1]; exact nI_ne0 hs0 (by omega)) ?_
      rw [cpI2_m, h1, idiv_n hn hs0 hs]
      refine x_eW (c_X3_fresh l D mw (nv := nv) (k := n / s) (by rw [cpI2_m]; exact h4) hlt (by have := Nat.div_le_self n s; omega)) dX3_changes_49 lk_X3_99 im_X3_fresh se_X3_fresh cd_X3_fresh (by decide) mw.k vcX3 rfl (by decide) rfl (by decide) ?_
      refine x_aload_n dX3_changes_52 rfl ?_
      refine x_eV (c_X3_made l D mw) dX3_changes_53 lk_X3_102 im_X3_made se_X3_made cd_X3_made (by decide) mw.k vcX3 rfl (by decide) rfl (by decide) ?_
      exact x_zi dX3_changes_56 ⟨by simp [chA, hne, cpI2_m, frI, va_up, h4], rfl, rfl, rfl, by simp only [chI, if_neg hne]; rfl, by simp only [chJ, if_neg hne]; rfl, rfl⟩
  · have h60 : nv = 60 := by rw [h4] at c6; exact (nI_eq (by omega) (by omega)).mp c6
    refine x_bipush (v := (-3)) dX3_changes_9 (by decide +kernel) ?_
    exact x_zi dX3_changes_11 ⟨by simp [chA, h60], rfl, rfl, rfl, by simp [chI, h60], by simp [chJ, h60], rfl⟩
/-- a version that answers -/
abbrev pV (I : Nat → Nat → Int32) (m nv : Nat) (v : Int32) : Prop := pN nv v ∧ I (m + 6) v.toNatClampNeg = 0
theorem it_1 {w : Int64} {t : Nat} : it w t = 1 ↔ bt w t = true := by
  unfold it
  cases h : bt w t <;> simp
theorem it_0 {w : Int64} {t : Nat} : it w t = 0 ↔ bt w t = false := by
  unfold it
  cases h : bt w t <;> simp
theorem it_i {w : Int64} {t : Nat} : (it w t).toInt32 = bI (bt w t = true) := by
  unfold it bI
  cases h : bt w t <;> simp
theorem itm_a {J : Nat → Nat → Int64} {m v n c : Nat} (h : c < 64) : itm J m v n c = it (J (m + 1) (64 * v + n)) c := if_pos h
theorem clz {j : Nat} (h : j < 64) : (nI j).toNatClampNeg = j := nI_clamp (by omega)
set_option maxHeartbeats 4000000 in
theorem c_X3_has (l : Launch) (D : va_G) {K N : Nat → Nat} {R : Nat → Nat → Nat} {I : Nat → Nat → Int32} {J : Nat → Nat → Int64} {sz : Nat} {m : Nat} (mw : MW m K N R) {nv nn : Nat} (h4 : I m 4 = nI nv) (hnv : nv ≤ 60) (h0 : I m 0 = nI nn) (hnn : nn ≤ 64) (v a b : Int32) : XM l D yX3_has cX3_has 4 (some .int) 2 0 0 [.ref m, .int v, .int a, .int b] K N R I J sz (Zx (some (.int (if pV I m nv v ∧ pN nn a ∧ pN nn b then bI (bt (J (m + 1) (64 * v.toNatClampNeg + a.toNatClampNeg)) b.toNatClampNeg = true) else -1))) K N R I J sz) := by
  refine XM.of (own := RX3) (nm := "has") (by decide +kernel) rfl rfl (by simp [xla, Value.category]) [.ref m, .int v, .int a, .int b] rfl (Zx.rt ⟨_, rfl⟩) ?_
  refine x_aload_n dX3_has_0 rfl ?_
  refine x_iload_n dX3_has_1 rfl ?_
  refine x_eV (c_X3_isVersion l D mw h4 hnv _) dX3_has_2 lk_X3_106 im_X3_isVersion se_X3_isVersion cd_X3_isVersion (by decide) mw.k vcX3 rfl (by decide) rfl (by decide) ?_
  refine x_if_eq 35 dX3_has_5 (by decide) (fun c5 => ?_) (fun c5 => ?_)
  · rw [bI_e0] at c5
    refine x_iconst (v := (-1)) dX3_has_35 (by decide +kernel) ?_
    first
      | exact x_ri dX3_has_36 (by rw [if_pos ⟨c5, c13, c21⟩, itm_a (show bj < 64 by omega), it_i, clz (show vj < 64 by omega), clz (show aj < 64 by omega), clz (show bj < 64 by omega)])
      | exact x_ri dX3_has_36 (by rw [if_neg (fun z => c5 z.1)])
      | exact x_ri dX3_has_36 (by rw [if_neg (fun z => c13 z.2.1)])
      | exact x_ri dX3_has_36 (by rw [if_neg (fun z => c21 z.2.2)])
  · rw [bI_n0] at c5
    obtain ⟨vj, hvj, rfl⟩ := pN_ex c5.1
    refine x_aload_n dX3_has_8 rfl ?_
    refine x_iload_n dX3_has_9 rfl ?_
    refine x_eV (c_X3_isNode l D mw h0 hnn _) dX3_has_10 lk_X3_110 im_X3_isNode se_X3_isNode cd_X3_isNode (by decide) mw.k vcX3 rfl (by decide) rfl (by decide) ?_
    refine x_if_eq 35 dX3_has_13 (by decide) (fun c13 => ?_) (fun c13 => ?_)
    · rw [bI_e0] at c13
      refine x_iconst (v := (-1)) dX3_has_35 (by decide +kernel) ?_
      first
        | exact x_ri dX3_has_36 (by rw [if_pos ⟨c5, c13, c21⟩, itm_a (show bj < 64 by omega), it_i, clz (show vj < 64 by omega), clz (show aj < 64 by omega), clz (show bj < 64 by omega)])
        | exact x_ri dX3_has_36 (by rw [if_neg (fun z => c5 z.1)])
        | exact x_ri dX3_has_36 (by rw [if_neg (fun z => c13 z.2.1)])
        | exact x_ri dX3_has_36 (by rw [if_neg (fun z => c21 z.2.2)])
    · rw [bI_n0] at c13
      obtain ⟨aj, haj, rfl⟩ := pN_ex c13
      refine x_aload_n dX3_has_16 rfl ?_
      refine x_iload_n dX3_has_17 rfl ?_
      refine x_eV (c_X3_isNode l D mw h0 hnn _) dX3_has_18 lk_X3_110 im_X3_isNode se_X3_isNode cd_X3_isNode (by decide) mw.k vcX3 rfl (by decide) rfl (by decide) ?_
      refine x_if_eq 35 dX3_has_21 (by decide) (fun c21 => ?_) (fun c21 => ?_)
      · rw [bI_e0] at c21
        refine x_iconst (v := (-1)) dX3_has_35 (by decide +kernel) ?_
        first
          | exact x_ri dX3_has_36 (by rw [if_pos ⟨c5, c13, c21⟩, itm_a (show bj < 64 by omega), it_i, clz (show vj < 64 by omega), clz (show aj < 64 by omega), clz (show bj < 64 by omega)])
          | exact x_ri dX3_has_36 (by rw [if_neg (fun z => c5 z.1)])
          | exact x_ri dX3_has_36 (by rw [if_neg (fun z => c13 z.2.1)])
          | exact x_ri dX3_has_36 (by rw [if_neg (fun z => c21 z.2.2)])
      · rw [bI_n0] at c21
        obtain ⟨bj, hbj, rfl⟩ := pN_ex c21
        refine x_aload_n dX3_has_24 rfl ?_
        refine x_iload_n dX3_has_25 rfl ?_
        refine x_iload_n dX3_has_26 rfl ?_
        refine x_iload_n dX3_has_27 rfl ?_
        refine x_top (tN_a (show bj < 64 by omega)).symm ?_
        refine x_eV (c_X3_item l D mw (v := vj) (n := aj) (c := bj) (by omega) (by omega) (by omega)) dX3_has_28 lk_X3_91 im_X3_item se_X3_item cd_X3_item (by decide) mw.k vcX3 rfl (by decide) rfl (by decide) ?_
        refine x_l2i dX3_has_31 rfl ?_
        refine x_goto 36 dX3_has_32 (by decide) ?_
        first
          | exact x_ri dX3_has_36 (by rw [if_pos ⟨c5, c13, c21⟩, itm_a (show bj < 64 by omega), it_i, clz (show vj < 64 by omega), clz (show aj < 64 by omega), clz (show bj < 64 by omega)])
          | exact x_ri dX3_has_36 (by rw [if_neg (fun z => c5 z.1)])
          | exact x_ri dX3_has_36 (by rw [if_neg (fun z => c13 z.2.1)])
          | exact x_ri dX3_has_36 (by rw [if_neg (fun z => c21 z.2.2)])
