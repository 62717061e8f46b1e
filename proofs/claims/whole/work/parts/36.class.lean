/-! The class: conflicts, turning, chunks alike -/
def cfB (J : Nat → Nat → Int64) (o a b : Nat) : Nat → Bool := fun i => (J (a + 2) i != J (o + 2) i) && ((J (b + 2) i != J (o + 2) i) && (J (a + 2) i != J (b + 2) i))
def ctB (J : Nat → Nat → Int64) (o a b : Nat) : Nat → Bool := fun i => (J (a + 2) i != J (b + 2) i) && ((J (o + 2) i != J (a + 2) i) && (J (o + 2) i != J (b + 2) i))
def tcC (J : Nat → Nat → Int64) (o a b : Nat) : Nat → Int64 := fun n => ucw (fun c => cfB J o a b (n * 2 + c)) 2
def tcJ (J : Nat → Nat → Int64) (u k : Nat) (Cc : Nat → Int64) : Nat → Nat → Int64 := va_up (va_up J (u + 1) (fun i => if i < 64 then 0 else J (u + 1) i)) (u + 2) (pz k Cc (J (u + 2)))
def akB (J : Nat → Nat → Int64) (p q s k : Nat) : Nat → Bool := fun n => decide (k * s ≤ n ∧ n < k * s + s) && ((J (p + 1) n != J (q + 1) n) || (rDd J p q n 0 || rDd J p q n 1))
theorem bt0 (c : Nat) : bt 0 c = false := by
  show (0#64).getLsbD c = false
  simp
theorem cnt0 : cntP (bt 0) 64 = 0 := by decide +kernel
set_option maxHeartbeats 4000000 in
theorem c_X2_isConflict (l : Launch) (D : va_G) {K N : Nat → Nat} {R : Nat → Nat → Nat} {I : Nat → Nat → Int32} {J : Nat → Nat → Int64} {sz : Nat} {o a b : Nat} (vo : VW o K N R) (va : VW a K N R) (vb : VW b K N R) {i : Nat} (hi : i < 128) : XM l D yX2_isConflict cX2_isConflict 6 (some .boolean) 0 0 0 [.ref o, .ref a, .ref b, .int (nI i)] K N R I J sz (Zx (some (.int (bI (cfB J o a b i = true)))) K N R I J sz) := by
  refine XM.of (own := RX2) (nm := "isConflict") (by decide +kernel) rfl rfl (by simp [xla, Value.category]) [.ref o, .ref a, .ref b, .int (nI i), .null, .null] rfl (Zx.rt bI_rt) ?_
  refine x_aload_n dX2_isConflict_0 rfl ?_
  refine x_getq dX2_isConflict_1 fl_X2_86 vo.k vo.r5 rfl ?_
  refine x_iload_n dX2_isConflict_4 rfl ?_
  refine x_lald (i) dX2_isConflict_5 vo.k5 vo.n5 rfl (by omega) (by decide) ?_
  refine x_lstore dX2_isConflict_6 (by decide) rfl ?_
  refine x_aload_n dX2_isConflict_8 rfl ?_
  refine x_getq dX2_isConflict_9 fl_X2_86 va.k va.r5 rfl ?_
  refine x_iload_n dX2_isConflict_12 rfl ?_
  refine x_lald (i) dX2_isConflict_13 va.k5 va.n5 rfl (by omega) (by decide) ?_
  refine x_lload dX2_isConflict_14 rfl ?_
  refine x_lcmp dX2_isConflict_16 ?_
  refine x_if_eq 52 dX2_isConflict_17 (by decide) (fun c17 => ?_) (fun c17 => ?_)
  · have hz : bI (cfB J o a b i = true) = 0 := bI_f (by simp [cfB, cmp_eq.mp c17])
    refine x_iconst (v := (0)) dX2_isConflict_52 (by decide +kernel) ?_
    exact x_ri dX2_isConflict_53 hz.symm
  · have c17 : J (a + 2) i ≠ J (o + 2) i := fun z => c17 (cmp_eq.mpr z)
    refine x_aload_n dX2_isConflict_20 rfl ?_
    refine x_getq dX2_isConflict_21 fl_X2_86 vb.k vb.r5 rfl ?_
    refine x_iload_n dX2_isConflict_24 rfl ?_
    refine x_lald (i) dX2_isConflict_25 vb.k5 vb.n5 rfl (by omega) (by decide) ?_
    refine x_lload dX2_isConflict_26 rfl ?_
    refine x_lcmp dX2_isConflict_28 ?_
    refine x_if_eq 52 dX2_isConflict_29 (by decide) (fun c29 => ?_) (fun c29 => ?_)
    · have hz : bI (cfB J o a b i = true) = 0 := bI_f (by simp [cfB, cmp_eq.mp c29])
      refine x_iconst (v := (0)) dX2_isConflict_52 (by decide +kernel) ?_
      exact x_ri dX2_isConflict_53 hz.symm
    · have c29 : J (b + 2) i ≠ J (o + 2) i := fun z => c29 (cmp_eq.mpr z)
      refine x_aload_n dX2_isConflict_32 rfl ?_
      refine x_getq dX2_isConflict_33 fl_X2_86 va.k va.r5 rfl ?_
      refine x_iload_n dX2_isConflict_36 rfl ?_
      refine x_lald (i) dX2_isConflict_37 va.k5 va.n5 rfl (by omega) (by decide) ?_
      refine x_aload_n dX2_isConflict_38 rfl ?_
      refine x_getq dX2_isConflict_39 fl_X2_86 vb.k vb.r5 rfl ?_
      refine x_iload_n dX2_isConflict_42 rfl ?_
      refine x_lald (i) dX2_isConflict_43 vb.k5 vb.n5 rfl (by omega) (by decide) ?_
      refine x_lcmp dX2_isConflict_44 ?_
      refine x_if_eq 52 dX2_isConflict_45 (by decide) (fun c45 => ?_) (fun c45 => ?_)
      · have hz : bI (cfB J o a b i = true) = 0 := bI_f (by simp [cfB, cmp_eq.mp c45])
        refine x_iconst (v := (0)) dX2_isConflict_52 (by decide +kernel) ?_
        exact x_ri dX2_isConflict_53 hz.symm
      · have c45 : J (a + 2) i ≠ J (b + 2) i := fun z => c45 (cmp_eq.mpr z)
        have hz : bI (cfB J o a b i = true) = 1 := bI_t (by simp [cfB, c17, c29, c45])
        refine x_iconst (v := (1)) dX2_isConflict_48 (by decide +kernel) ?_
        refine x_goto 53 dX2_isConflict_49 (by decide) ?_
        exact x_ri dX2_isConflict_53 hz.symm
set_option maxHeartbeats 4000000 in
theorem c_X2_hasConflict (l : Launch) (D : va_G) {K N : Nat → Nat} {R : Nat → Nat → Nat} {I : Nat → Nat → Int32} {J : Nat → Nat → Int64} {sz : Nat} {x : Nat} (cw : CW x K N R) {o a b : Nat} (vo : VW o K N R) (va : VW a K N R) (vb : VW b K N R) {nn : Nat} (h5 : I x 5 = nI nn) (hnn : nn ≤ 64) : XM l D yX2_hasConflict cX2_hasConflict 5 (some .boolean) 1 0 0 [.ref x, .ref o, .ref a, .ref b] K N R I J sz (Zx (some (.int (bI (anyP (cfB J o a b) (nn * 2) = true)))) K N R I J sz) := by
  have loop : ∀ (t i : Nat), t + i = nn * 2 → (∀ j, j < i → cfB J o a b j = false) → XW l D (fun _ => True) RX2 "hasConflict" cX2_hasConflict 5 1 0 0 K sz (Zx (some (.int (bI (anyP (cfB J o a b) (nn * 2) = true)))) K N R I J sz) 3 [.ref x, .ref o, .ref a, .ref b, .int (nI i)] [] K N R (I) (J) sz 0 0 := by
    intro t
    induction t with
    | zero =>
      intro i hi hf
      obtain rfl : i = nn * 2 := by omega
      refine x_iload dX2_hasConflict_3 rfl ?_
      refine x_aload_n dX2_hasConflict_5 rfl ?_
      refine x_geti dX2_hasConflict_6 fl_X2_29 cw.k rfl ?_
      refine x_iconst (v := (nI 2)) dX2_hasConflict_9 (by decide +kernel) ?_
      refine x_imul dX2_hasConflict_10 ?_
      refine x_icmp_ge 33 dX2_hasConflict_11 (by decide) (fun c11 => ?_) (fun c11 => ?_)
      · refine x_iconst (v := (0)) dX2_hasConflict_33 (by decide +kernel) ?_
        exact x_ri dX2_hasConflict_34 (by rw [bI_f]; rw [anyP_f hf]; decide)
      · exact absurd (by rw [h5, pk_mul]; exact nI_le (Nat.le_refl _) (by omega)) c11
    | succ t ih =>
      intro i hi hf
      refine x_iload dX2_hasConflict_3 rfl ?_
      refine x_aload_n dX2_hasConflict_5 rfl ?_
      refine x_geti dX2_hasConflict_6 fl_X2_29 cw.k rfl ?_
      refine x_iconst (v := (nI 2)) dX2_hasConflict_9 (by decide +kernel) ?_
      refine x_imul dX2_hasConflict_10 ?_
      refine x_icmp_ge 33 dX2_hasConflict_11 (by decide) (fun c11 => ?_) (fun c11 => ?_)
      · rw [h5, pk_mul] at c11; exact absurd c11 (nI_ge (by omega) (by omega))
      · refine x_aload_n dX2_hasConflict_14 rfl ?_
        refine x_aload_n dX2_hasConflict_15 rfl ?_
        refine x_aload_n dX2_hasConflict_16 rfl ?_
        refine x_iload dX2_hasConflict_17 rfl ?_
        refine x_eS (c_X2_isConflict l D vo va vb (i := i) (by omega)) dX2_hasConflict_19 lk_X2_214 st_X2_isConflict cd_X2_isConflict rfl (by decide) rfl (by first | decide | simp [Value.category]) ?_
        refine x_if_eq 27 dX2_hasConflict_22 (by decide) (fun c22 => ?_) (fun c22 => ?_)
        · rw [bI_e0] at c22
          have hq : cfB J o a b i = false := by simpa using c22
          refine x_iinc dX2_hasConflict_27 rfl rfl (by decide) rfl ?_
          refine x_goto 3 dX2_hasConflict_30 (by decide) ?_
          exact x_eql (by show [_, _, _, _, Value.int _] = _; simp [nI_1]) (ih (i + 1) (by omega) (lt_s hf hq))
        · rw [bI_n0] at c22
          refine x_iconst (v := (1)) dX2_hasConflict_25 (by decide +kernel) ?_
          exact x_ri dX2_hasConflict_26 (by rw [bI_t]; exact anyP_t (i := i) (by omega) c22)
  refine XM.of (own := RX2) (nm := "hasConflict") (by decide +kernel) rfl rfl (by simp [xla, Value.category]) [.ref x, .ref o, .ref a, .ref b, .null] rfl (Zx.rt bI_rt) ?_
  refine x_iconst (v := (0)) dX2_hasConflict_0 (by decide +kernel) ?_
  refine x_istore dX2_hasConflict_1 (by decide) rfl ?_
  exact x_eql rfl (loop (nn * 2) 0 rfl (fun j hj => by omega))
set_option maxHeartbeats 4000000 in
theorem c_X2_canTurn (l : Launch) (D : va_G) {K N : Nat → Nat} {R : Nat → Nat → Nat} {I : Nat → Nat → Int32} {J : Nat → Nat → Int64} {sz : Nat} {x : Nat} (cw : CW x K N R) {o a b : Nat} (vo : VW o K N R) (va : VW a K N R) (vb : VW b K N R) {nn : Nat} (h5 : I x 5 = nI nn) (hnn : nn ≤ 64) : XM l D yX2_canTurn cX2_canTurn 6 (some .boolean) 0 0 0 [.ref x, .ref o, .ref a, .ref b] K N R I J sz (Zx (some (.int (bI (anyP (ctB J o a b) (nn * 2) = false)))) K N R I J sz) := by
  have loop : ∀ (t i : Nat), t + i = nn * 2 → (∀ j, j < i → ctB J o a b j = false) → XW l D (fun _ => True) RX2 "canTurn" cX2_canTurn 6 0 0 0 K sz (Zx (some (.int (bI (anyP (ctB J o a b) (nn * 2) = false)))) K N R I J sz) 3 [.ref x, .ref o, .ref a, .ref b, .int (nI i), .null] [] K N R (I) (J) sz 0 0 := by
    intro t
    induction t with
    | zero =>
      intro i hi hf
      obtain rfl : i = nn * 2 := by omega
      refine x_iload dX2_canTurn_3 rfl ?_
      refine x_aload_n dX2_canTurn_5 rfl ?_
      refine x_geti dX2_canTurn_6 fl_X2_29 cw.k rfl ?_
      refine x_iconst (v := (nI 2)) dX2_canTurn_9 (by decide +kernel) ?_
      refine x_imul dX2_canTurn_10 ?_
      refine x_icmp_ge 88 dX2_canTurn_11 (by decide) (fun c11 => ?_) (fun c11 => ?_)
      · refine x_iconst (v := (1)) dX2_canTurn_88 (by decide +kernel) ?_
        exact x_ri dX2_canTurn_89 (by rw [bI_t]; exact anyP_f hf)
      · exact absurd (by rw [h5, pk_mul]; exact nI_le (Nat.le_refl _) (by omega)) c11
    | succ t ih =>
      intro i hi hf
      refine x_iload dX2_canTurn_3 rfl ?_
      refine x_aload_n dX2_canTurn_5 rfl ?_
      refine x_geti dX2_canTurn_6 fl_X2_29 cw.k rfl ?_
      refine x_iconst (v := (nI 2)) dX2_canTurn_9 (by decide +kernel) ?_
      refine x_imul dX2_canTurn_10 ?_
      refine x_icmp_ge 88 dX2_canTurn_11 (by decide) (fun c11 => ?_) (fun c11 => ?_)
      · rw [h5, pk_mul] at c11; exact absurd c11 (nI_ge (by omega) (by omega))
      · refine x_aload_n dX2_canTurn_14 rfl ?_
        refine x_getq dX2_canTurn_15 fl_X2_86 va.k va.r5 rfl ?_
        refine x_iload dX2_canTurn_18 rfl ?_
        refine x_lald (i) dX2_canTurn_20 va.k5 va.n5 rfl (by omega) (by decide) ?_
        refine x_aload_n dX2_canTurn_21 rfl ?_
        refine x_getq dX2_canTurn_22 fl_X2_86 vb.k vb.r5 rfl ?_
        refine x_iload dX2_canTurn_25 rfl ?_
        refine x_lald (i) dX2_canTurn_27 vb.k5 vb.n5 rfl (by omega) (by decide) ?_
        refine x_lcmp dX2_canTurn_28 ?_
        refine x_if_eq 36 dX2_canTurn_29 (by decide) (fun c29 => ?_) (fun c29 => ?_)
        · have c29 := cmp_eq.mp c29
          have hq : ctB J o a b i = false := by simp [ctB, c29]
          refine x_iconst (v := (0)) dX2_canTurn_36 (by decide +kernel) ?_
          refine x_istore dX2_canTurn_37 (by decide) rfl ?_
          refine x_iload dX2_canTurn_39 rfl ?_
          refine x_if_eq 82 dX2_canTurn_41 (by decide) (fun c41 => ?_) (fun c41 => ?_)
          · refine x_iinc dX2_canTurn_82 rfl rfl (by decide) rfl ?_
            refine x_goto 3 dX2_canTurn_85 (by decide) ?_
            refine x_drop 5 ?_
            first | exact x_eql (by show [_, _, _, _, Value.int _, _] = _; simp [nI_1]) (ih (i + 1) (by omega) (lt_s hf hq)) | exact absurd c41 (by decide)
          · refine x_aload_n dX2_canTurn_44 rfl ?_
            refine x_getq dX2_canTurn_45 fl_X2_86 vo.k vo.r5 rfl ?_
            refine x_iload dX2_canTurn_48 rfl ?_
            refine x_lald (i) dX2_canTurn_50 vo.k5 vo.n5 rfl (by omega) (by decide) ?_
            refine x_aload_n dX2_canTurn_51 rfl ?_
            refine x_getq dX2_canTurn_52 fl_X2_86 va.k va.r5 rfl ?_
            refine x_iload dX2_canTurn_55 rfl ?_
            refine x_lald (i) dX2_canTurn_57 va.k5 va.n5 rfl (by omega) (by decide) ?_
            refine x_lcmp dX2_canTurn_58 ?_
            refine x_if_eq 82 dX2_canTurn_59 (by decide) (fun c59 => ?_) (fun c59 => ?_)
            · have c59 := cmp_eq.mp c59
              have hq : ctB J o a b i = false := by simp [ctB, c59]
              refine x_iinc dX2_canTurn_82 rfl rfl (by decide) rfl ?_
              refine x_goto 3 dX2_canTurn_85 (by decide) ?_
              refine x_drop 5 ?_
              first | exact x_eql (by show [_, _, _, _, Value.int _, _] = _; simp [nI_1]) (ih (i + 1) (by omega) (lt_s hf hq)) | exact absurd c41 (by decide)
            · have c59 : J (o + 2) i ≠ J (a + 2) i := fun z => c59 (cmp_eq.mpr z)
              refine x_aload_n dX2_canTurn_62 rfl ?_
              refine x_getq dX2_canTurn_63 fl_X2_86 vo.k vo.r5 rfl ?_
              refine x_iload dX2_canTurn_66 rfl ?_
              refine x_lald (i) dX2_canTurn_68 vo.k5 vo.n5 rfl (by omega) (by decide) ?_
              refine x_aload_n dX2_canTurn_69 rfl ?_
              refine x_getq dX2_canTurn_70 fl_X2_86 vb.k vb.r5 rfl ?_
              refine x_iload dX2_canTurn_73 rfl ?_
              refine x_lald (i) dX2_canTurn_75 vb.k5 vb.n5 rfl (by omega) (by decide) ?_
              refine x_lcmp dX2_canTurn_76 ?_
              refine x_if_eq 82 dX2_canTurn_77 (by decide) (fun c77 => ?_) (fun c77 => ?_)
              · have c77 := cmp_eq.mp c77
                have hq : ctB J o a b i = false := by simp [ctB, c77]
                refine x_iinc dX2_canTurn_82 rfl rfl (by decide) rfl ?_
                refine x_goto 3 dX2_canTurn_85 (by decide) ?_
                refine x_drop 5 ?_
                first | exact x_eql (by show [_, _, _, _, Value.int _, _] = _; simp [nI_1]) (ih (i + 1) (by omega) (lt_s hf hq)) | exact absurd c41 (by decide)
              · have c77 : J (o + 2) i ≠ J (b + 2) i := fun z => c77 (cmp_eq.mpr z)
                have hq : ctB J o a b i = true := by first | exact absurd rfl c41 | simp [ctB, c29, c59, c77]
                refine x_iconst (v := (0)) dX2_canTurn_80 (by decide +kernel) ?_
                first | exact x_ri dX2_canTurn_81 (bI_f (by rw [anyP_t (i := i) (by omega) hq]; decide)).symm | exact absurd c41 (by decide) | exact absurd rfl c41
        · have c29 : J (a + 2) i ≠ J (b + 2) i := fun z => c29 (cmp_eq.mpr z)
          refine x_iconst (v := (1)) dX2_canTurn_32 (by decide +kernel) ?_
          refine x_goto 37 dX2_canTurn_33 (by decide) ?_
          refine x_istore dX2_canTurn_37 (by decide) rfl ?_
          refine x_iload dX2_canTurn_39 rfl ?_
          refine x_if_eq 82 dX2_canTurn_41 (by decide) (fun c41 => ?_) (fun c41 => ?_)
          · refine x_iinc dX2_canTurn_82 rfl rfl (by decide) rfl ?_
            refine x_goto 3 dX2_canTurn_85 (by decide) ?_
            refine x_drop 5 ?_
            first | exact x_eql (by show [_, _, _, _, Value.int _, _] = _; simp [nI_1]) (ih (i + 1) (by omega) (lt_s hf hq)) | exact absurd c41 (by decide)
          · refine x_aload_n dX2_canTurn_44 rfl ?_
            refine x_getq dX2_canTurn_45 fl_X2_86 vo.k vo.r5 rfl ?_
            refine x_iload dX2_canTurn_48 rfl ?_
            refine x_lald (i) dX2_canTurn_50 vo.k5 vo.n5 rfl (by omega) (by decide) ?_
            refine x_aload_n dX2_canTurn_51 rfl ?_
            refine x_getq dX2_canTurn_52 fl_X2_86 va.k va.r5 rfl ?_
            refine x_iload dX2_canTurn_55 rfl ?_
            refine x_lald (i) dX2_canTurn_57 va.k5 va.n5 rfl (by omega) (by decide) ?_
            refine x_lcmp dX2_canTurn_58 ?_
            refine x_if_eq 82 dX2_canTurn_59 (by decide) (fun c59 => ?_) (fun c59 => ?_)
            · have c59 := cmp_eq.mp c59
              have hq : ctB J o a b i = false := by simp [ctB, c59]
              refine x_iinc dX2_canTurn_82 rfl rfl (by decide) rfl ?_
              refine x_goto 3 dX2_canTurn_85 (by decide) ?_
              refine x_drop 5 ?_
              first | exact x_eql (by show [_, _, _, _, Value.int _, _] = _; simp [nI_1]) (ih (i + 1) (by omega) (lt_s hf hq)) | exact absurd c41 (by decide)
            · have c59 : J (o + 2) i ≠ J (a + 2) i := fun z => c59 (cmp_eq.mpr z)
              refine x_aload_n dX2_canTurn_62 rfl ?_
              refine x_getq dX2_canTurn_63 fl_X2_86 vo.k vo.r5 rfl ?_
              refine x_iload dX2_canTurn_66 rfl ?_
              refine x_lald (i) dX2_canTurn_68 vo.k5 vo.n5 rfl (by omega) (by decide) ?_
              refine x_aload_n dX2_canTurn_69 rfl ?_
              refine x_getq dX2_canTurn_70 fl_X2_86 vb.k vb.r5 rfl ?_
              refine x_iload dX2_canTurn_73 rfl ?_
              refine x_lald (i) dX2_canTurn_75 vb.k5 vb.n5 rfl (by omega) (by decide) ?_
              refine x_lcmp dX2_canTurn_76 ?_
              refine x_if_eq 82 dX2_canTurn_77 (by decide) (fun c77 => ?_) (fun c77 => ?_)
              · have c77 := cmp_eq.mp c77
                have hq : ctB J o a b i = false := by simp [ctB, c77]
                refine x_iinc dX2_canTurn_82 rfl rfl (by decide) rfl ?_
                refine x_goto 3 dX2_canTurn_85 (by decide) ?_
                refine x_drop 5 ?_
                first | exact x_eql (by show [_, _, _, _, Value.int _, _] = _; simp [nI_1]) (ih (i + 1) (by omega) (lt_s hf hq)) | exact absurd c41 (by decide)
              · have c77 : J (o + 2) i ≠ J (b + 2) i := fun z => c77 (cmp_eq.mpr z)
                have hq : ctB J o a b i = true := by first | exact absurd rfl c41 | simp [ctB, c29, c59, c77]
                refine x_iconst (v := (0)) dX2_canTurn_80 (by decide +kernel) ?_
                first | exact x_ri dX2_canTurn_81 (bI_f (by rw [anyP_t (i := i) (by omega) hq]; decide)).symm | exact absurd c41 (by decide) | exact absurd rfl c41
  refine XM.of (own := RX2) (nm := "canTurn") (by decide +kernel) rfl rfl (by simp [xla, Value.category]) [.ref x, .ref o, .ref a, .ref b, .null, .null] rfl (Zx.rt bI_rt) ?_
  refine x_iconst (v := (0)) dX2_canTurn_0 (by decide +kernel) ?_
  refine x_istore dX2_canTurn_1 (by decide) rfl ?_
  exact x_eql rfl (loop (nn * 2) 0 rfl (fun j hj => by omega))
set_option maxHeartbeats 4000000 in
theorem c_X2_tellConflicts (l : Launch) (D : va_G) {K N : Nat → Nat} {R : Nat → Nat → Nat} {I : Nat → Nat → Int32} {J : Nat → Nat → Int64} {sz : Nat} {x : Nat} (cw : CW x K N R) {o a b : Nat} (vo : VW o K N R) (va : VW a K N R) (vb : VW b K N R) {nn : Nat} (h5 : I x 5 = nI nn) (hnn : nn ≤ 64) (go : x + 8 ≤ o) (ga : x + 8 ≤ a) (gb : x + 8 ≤ b) : XM l D yX2_tellConflicts cX2_tellConflicts 6 none 2 0 0 [.ref x, .ref o, .ref a, .ref b] K N R I J sz (Zx none K N R (rsI I (x + 5) (fL (fun _ => (0 : Int64)) (tcC J o a b) nn).length) (tcJ J (x + 5) nn (tcC J o a b)) sz) := by
  refine XM.of (own := RX2) (nm := "tellConflicts") (by decide +kernel) rfl rfl (by simp [xla, Value.category]) [.ref x, .ref o, .ref a, .ref b, .null, .null] rfl (Zx.rt rfl) ?_
  refine x_aload_n dX2_tellConflicts_0 rfl ?_
  refine x_getq dX2_tellConflicts_1 fl_X2_22 cw.k cw.r2 rfl ?_
  refine x_eW (c_X0_clear l D cw.wc) dX2_tellConflicts_4 lk_X2_35 im_X0_clear se_X0_clear cd_X0_clear (by decide) cw.wc.k vcX0 rfl (by decide) rfl (by first | decide | simp [Value.category]) ?_
  have loop : ∀ (t k : Nat), t + k = nn → XW l D (fun _ => True) RX2 "tellConflicts" cX2_tellConflicts 6 2 0 0 K sz (Zx none K N R (rsI I (x + 5) (fL (fun _ => (0 : Int64)) (tcC J o a b) nn).length) (tcJ J (x + 5) nn (tcC J o a b)) sz) 10 [.ref x, .ref o, .ref a, .ref b, .int (nI k), .null] [] K N R (rsI I (x + 5) ((fL (fun _ => (0 : Int64)) (tcC J o a b) k).length)) (tcJ J (x + 5) k (tcC J o a b)) sz 0 0 := by
    intro t
    induction t with
    | zero =>
      intro k hk
      have i5 : rsI I (x + 5) (fL (fun _ => (0 : Int64)) (tcC J o a b) k).length x 5 = nI nn := by rw [rsI, va_up_ne _ _ (by omega)]; exact h5
      refine x_iload dX2_tellConflicts_10 rfl ?_
      refine x_aload_n dX2_tellConflicts_12 rfl ?_
      refine x_geti dX2_tellConflicts_13 fl_X2_29 cw.k rfl ?_
      refine x_icmp_ge 67 dX2_tellConflicts_16 (by decide) (fun c16 => ?_) (fun c16 => ?_)
      · obtain rfl : k = nn := by omega
        exact x_rn dX2_tellConflicts_67
      · exact absurd (by rw [i5]; exact nI_le (by omega) (by omega)) c16
    | succ t ih =>
      intro k hk
      have i5 : rsI I (x + 5) (fL (fun _ => (0 : Int64)) (tcC J o a b) k).length x 5 = nI nn := by rw [rsI, va_up_ne _ _ (by omega)]; exact h5
      have hcf : ∀ (F Gq : Nat → Int64), cfB (va_up (va_up J (x + 5 + 1) F) (x + 5 + 2) Gq) o a b = cfB J o a b := fun F Gq => by
        unfold cfB
        rw [up2_ro (by omega) (by omega), up2_ro (by omega) (by omega), up2_ro (by omega) (by omega)]
      have col : ∀ (t2 c : Nat), t2 + c = 2 → XW l D (fun _ => True) RX2 "tellConflicts" cX2_tellConflicts 6 2 0 0 K sz (Zx none K N R (rsI I (x + 5) (fL (fun _ => (0 : Int64)) (tcC J o a b) nn).length) (tcJ J (x + 5) nn (tcC J o a b)) sz) 22 [.ref x, .ref o, .ref a, .ref b, .int (nI k), .int (nI c)] [] K N R (rsI I (x + 5) ((fL (fun _ => (0 : Int64)) (tcC J o a b) k).length + cntP (fun c => cfB J o a b (k * 2 + c)) c)) (va_up (va_up J (x + 5 + 1) (fun i => if i < 64 then 0 else J (x + 5 + 1) i)) (x + 5 + 2) (va_up (pz k (tcC J o a b) (J (x + 5 + 2))) k (ucw (fun c => cfB J o a b (k * 2 + c)) c))) sz 0 0 := by
        intro t2
        induction t2 with
        | zero =>
          intro c hc
          obtain rfl : c = 2 := by omega
          refine x_iload dX2_tellConflicts_22 rfl ?_
          refine x_iconst (v := (2)) dX2_tellConflicts_24 (by decide +kernel) ?_
          refine x_icmp_ge 61 dX2_tellConflicts_25 (by decide) (fun c25 => ?_) (fun c25 => ?_)
          · refine x_iinc dX2_tellConflicts_61 rfl rfl (by decide) rfl ?_
            refine x_goto 10 dX2_tellConflicts_64 (by decide) ?_
            refine x_drop 5 ?_
            refine x_eqh (I' := rsI I (x + 5) ((fL (fun _ => (0 : Int64)) (tcC J o a b) (k + 1)).length)) (J' := tcJ J (x + 5) (k + 1) (tcC J o a b)) ?_ ?_ (x_eql (by show [_, _, _, _, Value.int _, _] = _; simp [nI_1]) (ih (k + 1) (by omega)))
            · rw [fL_suc]; congr 1; rw [show (tcC J o a b) k = ucw (fun c => cfB J o a b (k * 2 + c)) 2 from rfl, ucw_cnt, cnt0]; omega
            · rw [tcJ, pz_step (show ucw (fun c => cfB J o a b (k * 2 + c)) 2 = (tcC J o a b) k from rfl)]
          · exact absurd (nI_le (Nat.le_refl 2) (by omega)) c25
        | succ t2 ih2 =>
          intro c hc
          refine x_iload dX2_tellConflicts_22 rfl ?_
          refine x_iconst (v := (2)) dX2_tellConflicts_24 (by decide +kernel) ?_
          refine x_icmp_ge 61 dX2_tellConflicts_25 (by decide) (fun c25 => ?_) (fun c25 => ?_)
          · exact absurd c25 (nI_ge (show c < 2 by omega) (by decide))
          · refine x_aload_n dX2_tellConflicts_28 rfl ?_
            refine x_aload_n dX2_tellConflicts_29 rfl ?_
            refine x_aload_n dX2_tellConflicts_30 rfl ?_
            refine x_iload dX2_tellConflicts_31 rfl ?_
            refine x_iconst (v := (nI 2)) dX2_tellConflicts_33 (by decide +kernel) ?_
            refine x_imul dX2_tellConflicts_34 ?_
            refine x_iload dX2_tellConflicts_35 rfl ?_
            refine x_iadd dX2_tellConflicts_37 ?_
            rw [pk_mul, nI_add]
            refine x_eS (c_X2_isConflict l D vo va vb (i := k * 2 + c) (by omega)) dX2_tellConflicts_38 lk_X2_214 st_X2_isConflict cd_X2_isConflict rfl (by decide) rfl (by first | decide | simp [Value.category]) ?_
            rw [hcf]
            refine x_if_eq 55 dX2_tellConflicts_41 (by decide) (fun c41 => ?_) (fun c41 => ?_)
            · rw [bI_e0] at c41
              have c41 : cfB J o a b (k * 2 + c) = false := by simpa using c41
              have hq := ih2 (c + 1) (by omega)
              simp only [cntP, ucw, c41, if_false, Nat.add_zero, Bool.false_eq_true] at hq
              refine x_iinc dX2_tellConflicts_55 rfl rfl (by decide) rfl ?_
              refine x_goto 22 dX2_tellConflicts_58 (by decide) ?_
              exact x_eql (by show [_, _, _, _, _, Value.int _] = _; simp [nI_1]) hq
            · rw [bI_n0] at c41
              have hq := ih2 (c + 1) (by omega)
              simp only [cntP, ucw, c41, if_true] at hq
              refine x_aload_n dX2_tellConflicts_44 rfl ?_
              refine x_getq dX2_tellConflicts_45 fl_X2_22 cw.k cw.r2 rfl ?_
              refine x_iload dX2_tellConflicts_48 rfl ?_
              refine x_iload dX2_tellConflicts_50 rfl ?_
              refine x_eW (c_X0_addColumn l D cw.wc (n := k) (c := c) (by omega)) dX2_tellConflicts_52 lk_X2_135 im_X0_addColumn se_X0_addColumn cd_X0_addColumn (by decide) cw.wc.k vcX0 rfl (by decide) rfl (by first | decide | simp [Value.category]) ?_
              refine x_eqh (I' := rsI I (x + 5) ((fL (fun _ => (0 : Int64)) (tcC J o a b) k).length + (cntP (fun c => cfB J o a b (k * 2 + c)) c + 1))) (J' := va_up (va_up J (x + 5 + 1) (fun i => if i < 64 then 0 else J (x + 5 + 1) i)) (x + 5 + 2) (va_up (pz k (tcC J o a b) (J (x + 5 + 2))) k (ucw (fun c => cfB J o a b (k * 2 + c)) c ||| (1 : Int64) <<< ((nI c).toInt64 &&& 63)))) ?_ ?_ ?_
              · exact rsI_add (f := 1)
              · rw [va_up_self, va_up_up, va_up_up, va_up_self]
              refine x_iinc dX2_tellConflicts_55 rfl rfl (by decide) rfl ?_
              refine x_goto 22 dX2_tellConflicts_58 (by decide) ?_
              exact x_eql (by show [_, _, _, _, _, Value.int _] = _; simp [nI_1]) hq
      refine x_iload dX2_tellConflicts_10 rfl ?_
      refine x_aload_n dX2_tellConflicts_12 rfl ?_
      refine x_geti dX2_tellConflicts_13 fl_X2_29 cw.k rfl ?_
      refine x_icmp_ge 67 dX2_tellConflicts_16 (by decide) (fun c16 => ?_) (fun c16 => ?_)
      · rw [i5] at c16; exact absurd c16 (nI_ge (by omega) (by omega))
      · refine x_iconst (v := (0)) dX2_tellConflicts_19 (by decide +kernel) ?_
        refine x_istore dX2_tellConflicts_20 (by decide) rfl ?_
        refine x_eqh (I' := rsI I (x + 5) ((fL (fun _ => (0 : Int64)) (tcC J o a b) k).length + cntP (fun c => cfB J o a b (k * 2 + c)) 0)) (J' := va_up (va_up J (x + 5 + 1) (fun i => if i < 64 then 0 else J (x + 5 + 1) i)) (x + 5 + 2) (va_up (pz k (tcC J o a b) (J (x + 5 + 2))) k (ucw (fun c => cfB J o a b (k * 2 + c)) 0))) rfl ?_ (x_eql rfl (col 2 0 rfl))
        rw [tcJ]
        congr 1
        funext i
        by_cases e : i = k
        · subst e; rw [va_up_self, pz_at (by omega)]; rfl
        · rw [va_up_ne _ _ e]
  refine x_iconst (v := (0)) dX2_tellConflicts_7 (by decide +kernel) ?_
  refine x_istore dX2_tellConflicts_8 (by decide) rfl ?_
  refine x_eqh (I' := rsI I (x + 5) 0) (J' := tcJ J (x + 5) 0 (tcC J o a b)) rfl ?_ (x_eql rfl (loop nn 0 rfl))
  rw [clJ, tcJ, ← pz_0]
set_option maxHeartbeats 4000000 in
theorem c_X2_isChunkAlike (l : Launch) (D : va_G) {K N : Nat → Nat} {R : Nat → Nat → Nat} {I : Nat → Nat → Int32} {J : Nat → Nat → Int64} {sz : Nat} {x : Nat} (cw : CW x K N R) {p q : Nat} (vp : VW p K N R) (vq : VW q K N R) {nn : Nat} (h5 : I x 5 = nI nn) (hnn : nn ≤ 64) {s k : Nat} (h6 : I x 6 = nI s) (hs0 : 0 < s) (hs : s ≤ 64) (hk : k < 64) (hkn : k * s < nn) : XM l D yX2_isChunkAlike cX2_isChunkAlike 7 (some .boolean) 1 0 0 [.ref x, .ref p, .ref q, .int (nI k)] K N R I J sz (Zx (some (.int (bI (anyP (akB J p q s k) nn = false)))) K N R I J sz) := by
  obtain ⟨en, hen⟩ : ∃ en, en = if k * s + s < nn then k * s + s else nn := ⟨_, rfl⟩
  have hks : k * s + s ≤ 4160 := by
    have : k * s ≤ 64 * 64 := Nat.mul_le_mul (by omega) hs
    omega
  have hen1 : k * s < en := by rw [hen]; split <;> omega
  have hen2 : en ≤ nn := by rw [hen]; split <;> omega
  have hen3 : en ≤ k * s + s := by rw [hen]; split <;> omega
  have hen4 : ∀ n, en ≤ n → n < nn → k * s + s ≤ n := by
    intro n h1 h2
    rw [hen] at h1
    split at h1 <;> omega
  have hmin : (if nI (k * s + s) < nI nn then nI (k * s + s) else nI nn) = nI en := by
    rw [hen]
    by_cases z : k * s + s < nn
    · rw [if_pos z, if_pos (nI_lt z (by omega))]
    · rw [if_neg z, if_neg (fun h => z ((nI_ltI (by omega) (by omega)).mp h))]
  have loop : ∀ (t n : Nat), t + n = en → k * s ≤ n → (∀ j, j < n → akB J p q s k j = false) → XW l D (fun _ => True) RX2 "isChunkAlike" cX2_isChunkAlike 7 1 0 0 K sz (Zx (some (.int (bI (anyP (akB J p q s k) nn = false)))) K N R I J sz) 28 [.ref x, .ref p, .ref q, .int (nI k), .int (nI en), .int (nI n), .null] [] K N R (I) (J) sz 0 0 := by
    intro t
    induction t with
    | zero =>
      intro n hn hkn hf
      obtain rfl : n = en := by omega
      refine x_iload dX2_isChunkAlike_28 rfl ?_
      refine x_iload dX2_isChunkAlike_30 rfl ?_
      refine x_icmp_ge 98 dX2_isChunkAlike_32 (by decide) (fun c32 => ?_) (fun c32 => ?_)
      · refine x_iconst (v := (1)) dX2_isChunkAlike_98 (by decide +kernel) ?_
        exact x_ri dX2_isChunkAlike_99 (bI_t (anyP_f (fun i hi => by
          rcases Nat.lt_or_ge i n with z | z
          · exact hf i z
          · have := hen4 i z hi
            simp only [akB]
            rw [decide_eq_false (by omega)]; rfl))).symm
      · exact absurd (nI_le (Nat.le_refl _) (by omega)) c32
    | succ t ih =>
      intro n hn hkn hf
      have hin : k * s ≤ n ∧ n < k * s + s := by omega
      refine x_iload dX2_isChunkAlike_28 rfl ?_
      refine x_iload dX2_isChunkAlike_30 rfl ?_
      refine x_icmp_ge 98 dX2_isChunkAlike_32 (by decide) (fun c32 => ?_) (fun c32 => ?_)
      · exact absurd c32 (nI_ge (by omega) (by omega))
      · refine x_aload_n dX2_isChunkAlike_35 rfl ?_
        refine x_getq dX2_isChunkAlike_36 fl_X2_110 vp.k vp.r4 rfl ?_
        refine x_iload dX2_isChunkAlike_39 rfl ?_
        refine x_lald (n) dX2_isChunkAlike_41 vp.k4 vp.n4 rfl (by omega) (by decide) ?_
        refine x_aload_n dX2_isChunkAlike_42 rfl ?_
        refine x_getq dX2_isChunkAlike_43 fl_X2_110 vq.k vq.r4 rfl ?_
        refine x_iload dX2_isChunkAlike_46 rfl ?_
        refine x_lald (n) dX2_isChunkAlike_48 vq.k4 vq.n4 rfl (by omega) (by decide) ?_
        refine x_lcmp dX2_isChunkAlike_49 ?_
        refine x_if_eq 55 dX2_isChunkAlike_50 (by decide) (fun c50 => ?_) (fun c50 => ?_)
        · have c50 := cmp_eq.mp c50
          have col2 : rDd J p q n 0 = false → rDd J p q n 1 = false → XW l D (fun _ => True) RX2 "isChunkAlike" cX2_isChunkAlike 7 1 0 0 K sz (Zx (some (.int (bI (anyP (akB J p q s k) nn = false)))) K N R I J sz) 58 [.ref x, .ref p, .ref q, .int (nI k), .int (nI en), .int (nI n), .int (nI 2)] [] K N R (I) (J) sz 0 0 := by
            intro d0 d1
            have hq : akB J p q s k n = false := by simp [akB, c50, d0, d1]
            refine x_iload dX2_isChunkAlike_58 rfl ?_
            refine x_iconst (v := (2)) dX2_isChunkAlike_60 (by decide +kernel) ?_
            refine x_icmp_ge 92 dX2_isChunkAlike_61 (by decide) (fun c61 => ?_) (fun c61 => ?_)
            · refine x_iinc dX2_isChunkAlike_92 rfl rfl (by decide) rfl ?_
              refine x_goto 28 dX2_isChunkAlike_95 (by decide) ?_
              refine x_drop 6 ?_
              exact x_eql (by show [_, _, _, _, _, Value.int _, _] = _; simp [nI_1]) (ih (n + 1) (by omega) (by omega) (lt_s hf hq))
            · exact absurd (nI_le (Nat.le_refl 2) (by omega)) c61
          have col1 : rDd J p q n 0 = false → XW l D (fun _ => True) RX2 "isChunkAlike" cX2_isChunkAlike 7 1 0 0 K sz (Zx (some (.int (bI (anyP (akB J p q s k) nn = false)))) K N R I J sz) 58 [.ref x, .ref p, .ref q, .int (nI k), .int (nI en), .int (nI n), .int (nI 1)] [] K N R (I) (J) sz 0 0 := by
            intro d0
            refine x_iload dX2_isChunkAlike_58 rfl ?_
            refine x_iconst (v := (2)) dX2_isChunkAlike_60 (by decide +kernel) ?_
            refine x_icmp_ge 92 dX2_isChunkAlike_61 (by decide) (fun c61 => ?_) (fun c61 => ?_)
            · exact absurd c61 (nI_ge (show 1 < 2 by omega) (by decide))
            · refine x_aload_n dX2_isChunkAlike_64 rfl ?_
              refine x_iload dX2_isChunkAlike_65 rfl ?_
              refine x_iload dX2_isChunkAlike_67 rfl ?_
              refine x_eV (c_X1_numberAt l D vp (n := n) (c := 1) (by omega) (by omega)) dX2_isChunkAlike_69 lk_X2_82 im_X1_numberAt se_X1_numberAt cd_X1_numberAt (by decide) vp.k vcX1 rfl (by decide) rfl (by first | decide | simp [Value.category]) ?_
              refine x_aload_n dX2_isChunkAlike_72 rfl ?_
              refine x_iload dX2_isChunkAlike_73 rfl ?_
              refine x_iload dX2_isChunkAlike_75 rfl ?_
              refine x_eV (c_X1_numberAt l D vq (n := n) (c := 1) (by omega) (by omega)) dX2_isChunkAlike_77 lk_X2_82 im_X1_numberAt se_X1_numberAt cd_X1_numberAt (by decide) vq.k vcX1 rfl (by decide) rfl (by first | decide | simp [Value.category]) ?_
              refine x_lcmp dX2_isChunkAlike_80 ?_
              refine x_if_eq 86 dX2_isChunkAlike_81 (by decide) (fun c81 => ?_) (fun c81 => ?_)
              · have d1 : rDd J p q n 1 = false := by simp [rDd, cmp_eq.mp c81]
                refine x_iinc dX2_isChunkAlike_86 rfl rfl (by decide) rfl ?_
                refine x_goto 58 dX2_isChunkAlike_89 (by decide) ?_
                exact x_eql (by show [_, _, _, _, _, _, Value.int _] = _; rfl) (col2 d0 d1)
              · have d1 : rDd J p q n 1 = true := by simpa [rDd] using fun z => c81 (cmp_eq.mpr z)
                have hq : akB J p q s k n = true := by simp [akB, hin, d1]
                refine x_iconst (v := (0)) dX2_isChunkAlike_84 (by decide +kernel) ?_
                exact x_ri dX2_isChunkAlike_85 (bI_f (by rw [anyP_t (i := n) (by omega) hq]; decide)).symm
          have col0 : XW l D (fun _ => True) RX2 "isChunkAlike" cX2_isChunkAlike 7 1 0 0 K sz (Zx (some (.int (bI (anyP (akB J p q s k) nn = false)))) K N R I J sz) 58 [.ref x, .ref p, .ref q, .int (nI k), .int (nI en), .int (nI n), .int (nI 0)] [] K N R (I) (J) sz 0 0 := by
            refine x_iload dX2_isChunkAlike_58 rfl ?_
            refine x_iconst (v := (2)) dX2_isChunkAlike_60 (by decide +kernel) ?_
            refine x_icmp_ge 92 dX2_isChunkAlike_61 (by decide) (fun c61 => ?_) (fun c61 => ?_)
            · exact absurd c61 (nI_ge (show 0 < 2 by omega) (by decide))
            · refine x_aload_n dX2_isChunkAlike_64 rfl ?_
              refine x_iload dX2_isChunkAlike_65 rfl ?_
              refine x_iload dX2_isChunkAlike_67 rfl ?_
              refine x_eV (c_X1_numberAt l D vp (n := n) (c := 0) (by omega) (by omega)) dX2_isChunkAlike_69 lk_X2_82 im_X1_numberAt se_X1_numberAt cd_X1_numberAt (by decide) vp.k vcX1 rfl (by decide) rfl (by first | decide | simp [Value.category]) ?_
              refine x_aload_n dX2_isChunkAlike_72 rfl ?_
              refine x_iload dX2_isChunkAlike_73 rfl ?_
              refine x_iload dX2_isChunkAlike_75 rfl ?_
              refine x_eV (c_X1_numberAt l D vq (n := n) (c := 0) (by omega) (by omega)) dX2_isChunkAlike_77 lk_X2_82 im_X1_numberAt se_X1_numberAt cd_X1_numberAt (by decide) vq.k vcX1 rfl (by decide) rfl (by first | decide | simp [Value.category]) ?_
              refine x_lcmp dX2_isChunkAlike_80 ?_
              refine x_if_eq 86 dX2_isChunkAlike_81 (by decide) (fun c81 => ?_) (fun c81 => ?_)
              · have d0 : rDd J p q n 0 = false := by simp [rDd] ; exact cmp_eq.mp c81
                refine x_iinc dX2_isChunkAlike_86 rfl rfl (by decide) rfl ?_
                refine x_goto 58 dX2_isChunkAlike_89 (by decide) ?_
                exact x_eql (by show [_, _, _, _, _, _, Value.int _] = _; rfl) (col1 d0)
              · have d0 : rDd J p q n 0 = true := by simpa [rDd] using fun z => c81 (cmp_eq.mpr z)
                have hq : akB J p q s k n = true := by simp [akB, hin, d0]
                refine x_iconst (v := (0)) dX2_isChunkAlike_84 (by decide +kernel) ?_
                exact x_ri dX2_isChunkAlike_85 (bI_f (by rw [anyP_t (i := n) (by omega) hq]; decide)).symm
          refine x_iconst (v := (0)) dX2_isChunkAlike_55 (by decide +kernel) ?_
          refine x_istore dX2_isChunkAlike_56 (by decide) rfl ?_
          exact x_eql rfl col0
        · have c50 : J (p + 1) n ≠ J (q + 1) n := fun z => c50 (cmp_eq.mpr z)
          have hq : akB J p q s k n = true := by simp [akB, hin, c50]
          refine x_iconst (v := (0)) dX2_isChunkAlike_53 (by decide +kernel) ?_
          exact x_ri dX2_isChunkAlike_54 (bI_f (by rw [anyP_t (i := n) (by omega) hq]; decide)).symm
  refine XM.of (own := RX2) (nm := "isChunkAlike") (by decide +kernel) rfl rfl (by simp [xla, Value.category]) [.ref x, .ref p, .ref q, .int (nI k), .null, .null, .null] rfl (Zx.rt bI_rt) ?_
  refine x_aload_n dX2_isChunkAlike_0 rfl ?_
  refine x_geti dX2_isChunkAlike_1 fl_X2_29 cw.k rfl ?_
  refine x_iload_n dX2_isChunkAlike_4 rfl ?_
  refine x_aload_n dX2_isChunkAlike_5 rfl ?_
  refine x_geti dX2_isChunkAlike_6 fl_X2_25 cw.k rfl ?_
  refine x_imul dX2_isChunkAlike_9 ?_
  refine x_aload_n dX2_isChunkAlike_10 rfl ?_
  refine x_geti dX2_isChunkAlike_11 fl_X2_25 cw.k rfl ?_
  refine x_iadd dX2_isChunkAlike_14 ?_
  refine x_min dX2_isChunkAlike_15 ml_X2_209 w_minst w_mathini w_mincode (by decide) (by decide) ?_
  rw [h5, h6, pk_mul, nI_add, hmin]
  refine x_istore dX2_isChunkAlike_18 (by decide) rfl ?_
  refine x_iload_n dX2_isChunkAlike_20 rfl ?_
  refine x_aload_n dX2_isChunkAlike_21 rfl ?_
  refine x_geti dX2_isChunkAlike_22 fl_X2_25 cw.k rfl ?_
  refine x_imul dX2_isChunkAlike_25 ?_
  rw [h6, pk_mul]
  refine x_istore dX2_isChunkAlike_26 (by decide) rfl ?_
  exact x_eql rfl (loop (en - k * s) (k * s) (by omega) (Nat.le_refl _) (fun j hj => by
    simp only [akB]
    rw [decide_eq_false (by omega)]; rfl))
