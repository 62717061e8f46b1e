/-! The class: sets of items; copies -/
theorem bitc {w a b c d e f : Int64} (ha : a = w - ((w.toUInt64 >>> ((nI 1).toInt64.toUInt64 &&& Int64.toUInt64 63)).toInt64 &&& 6148914691236517205)) (hb : b = (a &&& 3689348814741910323) + ((a.toUInt64 >>> ((nI 2).toInt64.toUInt64 &&& Int64.toUInt64 63)).toInt64 &&& 3689348814741910323)) (hc : c = (b + (b.toUInt64 >>> ((nI 4).toInt64.toUInt64 &&& Int64.toUInt64 63)).toInt64) &&& 1085102592571150095) (hd : d = c + (c.toUInt64 >>> ((nI 8).toInt64.toUInt64 &&& Int64.toUInt64 63)).toInt64) (he : e = d + (d.toUInt64 >>> ((nI 16).toInt64.toUInt64 &&& Int64.toUInt64 63)).toInt64) (hf : f = e + (e.toUInt64 >>> ((nI 32).toInt64.toUInt64 &&& Int64.toUInt64 63)).toInt64) : f.toInt32 &&& nI 127 = nI (cntP (bt w) 64) := by
  have c1 : uL 6148914691236517205 = 6148914691236517205 := by decide +kernel
  have c2 : uL 3689348814741910323 = 3689348814741910323 := by decide +kernel
  have c3 : uL 1085102592571150095 = 1085102592571150095 := by decide +kernel
  have ea : uL a = uL w - (uL w / 2 &&& 6148914691236517205) := by
    rw [ha, uL_sub, uL_and, uL_shr w (by omega), c1]
    rw [uL_and, uL_shr w (by omega), c1]
    have : uL w / 2 ^ 1 &&& 6148914691236517205 ≤ uL w / 2 ^ 1 := Nat.and_le_left
    have : uL w / 2 ^ 1 ≤ uL w := Nat.div_le_self _ _
    omega
  have eb : uL b = (uL a &&& 3689348814741910323) + (uL a / 4 &&& 3689348814741910323) := by
    rw [hb, uL_add, uL_and, uL_and, uL_shr a (by omega), c2]
    rw [uL_and, uL_and, uL_shr a (by omega), c2]
    have h1 : uL a &&& 3689348814741910323 ≤ 3689348814741910323 := Nat.and_le_right
    have h2 : uL a / 2 ^ 2 &&& 3689348814741910323 ≤ 3689348814741910323 := Nat.and_le_right
    omega
  obtain ⟨s1, s2, s3, s4, s5⟩ := swar (x := uL w) (by have := uL_lt w; simpa using this) ea eb rfl rfl rfl rfl
  have ec : uL c = (uL b + uL b / 16) &&& 1085102592571150095 := by
    rw [hc, uL_and, c3, uL_add, uL_shr b (by omega)]
    rw [uL_shr b (by omega)]; exact s1
  rw [← ec] at s2 s3 s4 s5
  have ed : uL d = uL c + uL c / 256 := by
    rw [hd, uL_add, uL_shr c (by omega)]
    rw [uL_shr c (by omega)]
    show uL c + uL c / 256 < _
    omega
  rw [← ed] at s2 s3 s4 s5
  have ee : uL e = uL d + uL d / 65536 := by
    rw [he, uL_add, uL_shr d (by omega)]
    rw [uL_shr d (by omega)]
    show uL d + uL d / 65536 < _
    omega
  rw [← ee] at s2 s3 s4 s5
  have ef : uL f = uL e + uL e / 4294967296 := by
    rw [hf, uL_add, uL_shr e (by omega)]
    rw [uL_shr e (by omega)]
    show uL e + uL e / 4294967296 < _
    omega
  rw [← ef] at s5
  rw [l2i_and s5]
  congr 2
theorem cnt64 (w : Int64) : cntP (bt w) 64 ≤ 64 := cntP_le _ _
def plc (w : Int64) (j : Nat) : Nat := ((filP (bt w) 64)[j]?).getD 0
theorem plc_at {w : Int64} {t : Nat} (ht : t < 64) (h : bt w t = true) : plc w (cntP (bt w) t) = t := by
  have := filP_get ht h
  rw [filP_len] at this
  rw [plc, this]; rfl
theorem cntP_mono (p : Nat → Bool) {a b : Nat} (h : a ≤ b) : cntP p a ≤ cntP p b := by
  obtain ⟨k, rfl⟩ := Nat.le.dest h
  rw [cntP_add]; omega
def clJ (J : Nat → Nat → Int64) (u k : Nat) : Nat → Nat → Int64 := va_up (va_up J (u + 1) (fun i => if i < k then 0 else J (u + 1) i)) (u + 2) (fun i => if i < k then 0 else J (u + 2) i)
theorem clJ_0 {J : Nat → Nat → Int64} {u : Nat} : clJ J u 0 = J := by
  unfold clJ
  rw [show (fun i => if i < 0 then 0 else J (u + 1) i) = J (u + 1) from by funext i; simp, show (fun i => if i < 0 then 0 else J (u + 2) i) = J (u + 2) from by funext i; simp, va_up_id, va_up_id]
theorem clJ_step {J : Nat → Nat → Int64} {u k : Nat} {F : Nat → Int64} (hF : F = va_up (clJ J u k (u + 2)) k 0) : va_up (va_up (clJ J u k) (u + 1) (va_up (clJ J u k (u + 1)) k 0)) (u + 2) F = clJ J u (k + 1) := by
  subst hF
  have e1 : clJ J u k (u + 1) = fun i => if i < k then 0 else J (u + 1) i := by simp [clJ, va_up]
  have e2 : clJ J u k (u + 2) = fun i => if i < k then 0 else J (u + 2) i := by simp [clJ, va_up]
  have st : ∀ g : Nat → Int64, va_up (fun i => if i < k then 0 else g i) k 0 = fun i => if i < k + 1 then 0 else g i := by
    intro g; funext i
    by_cases h : i = k
    · subst h; rw [va_up_self, if_pos (by omega)]
    · rw [va_up_ne _ _ h]
      by_cases h2 : i < k
      · rw [if_pos h2, if_pos (by omega)]
      · rw [if_neg h2, if_neg (by omega)]
  rw [e1, e2, st, st]
  funext r
  by_cases h1 : r = u + 1
  · subst h1; simp [clJ, va_up]
  · by_cases h2 : r = u + 2
    · subst h2; simp [clJ, va_up]
    · simp [clJ, va_up, h1, h2]
def fL (A Cq : Nat → Int64) : Nat → List Nat := lstP (fun n => (filP (bt (A n)) 64).map (fun t => n * 66 + t) ++ (filP (bt (Cq n)) 64).map (fun t => n * 66 + 64 + t))
theorem fL_suc {A Cq : Nat → Int64} {n : Nat} : (fL A Cq (n + 1)).length = (fL A Cq n).length + cntP (bt (A n)) 64 + cntP (bt (Cq n)) 64 := by
  simp [fL, lstP, filP_len]; omega
theorem plc_get {w : Int64} {j : Nat} (h : j < cntP (bt w) 64) : (filP (bt w) 64)[j]? = some (plc w j) := by
  rw [← filP_len] at h
  rw [plc, List.getElem?_eq_getElem h]; rfl
theorem fL_a {A Cq : Nat → Int64} {n j : Nat} (hn : n < 64) (h : j < cntP (bt (A n)) 64) : (fL A Cq 64)[(fL A Cq n).length + j]? = some (n * 66 + plc (A n) j) := by
  unfold fL
  rw [lstP_get hn (by simp [filP_len]; omega)]
  rw [List.getElem?_append_left (by simp [filP_len]; omega), List.getElem?_map, plc_get h]; rfl
theorem fL_c {A Cq : Nat → Int64} {n j : Nat} (hn : n < 64) (h : j < cntP (bt (Cq n)) 64) : (fL A Cq 64)[(fL A Cq n).length + cntP (bt (A n)) 64 + j]? = some (n * 66 + 64 + plc (Cq n) j) := by
  unfold fL
  rw [Nat.add_assoc, lstP_get hn (by simp [filP_len]; omega)]
  rw [List.getElem?_append_right (by simp [filP_len]), List.getElem?_map]
  simp only [List.length_map, filP_len, Nat.add_sub_cancel_left]
  rw [plc_get h]; rfl
theorem plc_lt {w : Int64} {j : Nat} : plc w j < 64 := by
  unfold plc
  cases h : (filP (bt w) 64)[j]? with
  | none => simp
  | some t => exact filP_lt h
set_option maxHeartbeats 4000000 in
theorem c_J13_bitCount_95d88 (l : Launch) (D : va_G) {K N : Nat → Nat} {R : Nat → Nat → Nat} {I : Nat → Nat → Int32} {J : Nat → Nat → Int64} {sz : Nat} (w : Int64) : XM l D yJ13_bitCount_95d88 cJ13_bitCount_95d88 2 (some .int) 0 0 0 [.long w] K N R I J sz (Zx (some (.int (nI (cntP (bt w) 64)))) K N R I J sz) := by
  refine XM.of (own := RJ13) (nm := "bitCount") (by decide +kernel) rfl rfl (by simp [xla, Value.category]) [.long w, .null] rfl (Zx.rt ⟨_, rfl⟩) ?_
  refine x_lload_n dJ13_bitCount_95d88_0 rfl ?_
  refine x_lload_n dJ13_bitCount_95d88_1 rfl ?_
  refine x_iconst (v := (nI 1)) dJ13_bitCount_95d88_2 (by decide +kernel) ?_
  refine x_lushr dJ13_bitCount_95d88_3 rfl ?_
  refine x_ldc2 dJ13_bitCount_95d88_4 kl_J13_314 ?_
  refine x_land dJ13_bitCount_95d88_7 ?_
  refine x_lsub dJ13_bitCount_95d88_8 ?_
  refine x_lstore_n dJ13_bitCount_95d88_9 (by decide) rfl ?_
  refine x_lload_n dJ13_bitCount_95d88_10 rfl ?_
  refine x_ldc2 dJ13_bitCount_95d88_11 kl_J13_316 ?_
  refine x_land dJ13_bitCount_95d88_14 ?_
  refine x_lload_n dJ13_bitCount_95d88_15 rfl ?_
  refine x_iconst (v := (nI 2)) dJ13_bitCount_95d88_16 (by decide +kernel) ?_
  refine x_lushr dJ13_bitCount_95d88_17 rfl ?_
  refine x_ldc2 dJ13_bitCount_95d88_18 kl_J13_316 ?_
  refine x_land dJ13_bitCount_95d88_21 ?_
  refine x_ladd dJ13_bitCount_95d88_22 ?_
  refine x_lstore_n dJ13_bitCount_95d88_23 (by decide) rfl ?_
  refine x_lload_n dJ13_bitCount_95d88_24 rfl ?_
  refine x_lload_n dJ13_bitCount_95d88_25 rfl ?_
  refine x_iconst (v := (nI 4)) dJ13_bitCount_95d88_26 (by decide +kernel) ?_
  refine x_lushr dJ13_bitCount_95d88_27 rfl ?_
  refine x_ladd dJ13_bitCount_95d88_28 ?_
  refine x_ldc2 dJ13_bitCount_95d88_29 kl_J13_318 ?_
  refine x_land dJ13_bitCount_95d88_32 ?_
  refine x_lstore_n dJ13_bitCount_95d88_33 (by decide) rfl ?_
  refine x_lload_n dJ13_bitCount_95d88_34 rfl ?_
  refine x_lload_n dJ13_bitCount_95d88_35 rfl ?_
  refine x_bipush (v := (nI 8)) dJ13_bitCount_95d88_36 (by decide +kernel) ?_
  refine x_lushr dJ13_bitCount_95d88_38 rfl ?_
  refine x_ladd dJ13_bitCount_95d88_39 ?_
  refine x_lstore_n dJ13_bitCount_95d88_40 (by decide) rfl ?_
  refine x_lload_n dJ13_bitCount_95d88_41 rfl ?_
  refine x_lload_n dJ13_bitCount_95d88_42 rfl ?_
  refine x_bipush (v := (nI 16)) dJ13_bitCount_95d88_43 (by decide +kernel) ?_
  refine x_lushr dJ13_bitCount_95d88_45 rfl ?_
  refine x_ladd dJ13_bitCount_95d88_46 ?_
  refine x_lstore_n dJ13_bitCount_95d88_47 (by decide) rfl ?_
  refine x_lload_n dJ13_bitCount_95d88_48 rfl ?_
  refine x_lload_n dJ13_bitCount_95d88_49 rfl ?_
  refine x_bipush (v := (nI 32)) dJ13_bitCount_95d88_50 (by decide +kernel) ?_
  refine x_lushr dJ13_bitCount_95d88_52 rfl ?_
  refine x_ladd dJ13_bitCount_95d88_53 ?_
  refine x_lstore_n dJ13_bitCount_95d88_54 (by decide) rfl ?_
  refine x_lload_n dJ13_bitCount_95d88_55 rfl ?_
  refine x_l2i dJ13_bitCount_95d88_56 rfl ?_
  refine x_bipush (v := (nI 127)) dJ13_bitCount_95d88_57 (by decide +kernel) ?_
  refine x_iand dJ13_bitCount_95d88_59 ?_
  exact x_ri dJ13_bitCount_95d88_60 (bitc rfl rfl rfl rfl rfl rfl)
set_option maxHeartbeats 4000000 in
theorem c_X2_placeOfBit (l : Launch) (D : va_G) {K N : Nat → Nat} {R : Nat → Nat → Nat} {I : Nat → Nat → Int32} {J : Nat → Nat → Int64} {sz : Nat} {w : Int64} {j : Nat} (hj : j < cntP (bt w) 64) : XM l D yX2_placeOfBit cX2_placeOfBit 5 (some .int) 1 0 0 [.long w, .int (nI j)] K N R I J sz (Zx (some (.int (nI (plc w j)))) K N R I J sz) := by
  have h64 := cnt64 w
  have loop : ∀ (Tq t : Nat), Tq + t = 64 → cntP (bt w) t ≤ j → XW l D (fun _ => True) RX2 "placeOfBit" cX2_placeOfBit 5 1 0 0 K sz (Zx (some (.int (nI (plc w j)))) K N R I J sz) 5 [.long w, .null, .int (nI j), .int (nI (j - cntP (bt w) t)), .int (nI t)] [] K N R (I) (J) sz 0 0 := by
    intro Tq
    induction Tq with
    | zero =>
      intro t ht hc
      obtain rfl : t = 64 := by omega
      exact absurd hc (by omega)
    | succ Tq ih =>
      intro t ht hc
      refine x_iload dX2_placeOfBit_5 rfl ?_
      refine x_bipush (v := (nI 64)) dX2_placeOfBit_7 (by decide +kernel) ?_
      refine x_icmp_ge 37 dX2_placeOfBit_9 (by decide) (fun c9 => ?_) (fun c9 => ?_)
      · exact absurd c9 (nI_ge (by omega) (by omega))
      · refine x_lload_n dX2_placeOfBit_12 rfl ?_
        refine x_iload dX2_placeOfBit_13 rfl ?_
        refine x_eS (c_X2_isBitSet l D (by omega)) dX2_placeOfBit_15 lk_X2_123 st_X2_isBitSet cd_X2_isBitSet rfl (by decide) rfl (by first | decide | simp [Value.category]) ?_
        refine x_if_eq 31 dX2_placeOfBit_18 (by decide) (fun c18 => ?_) (fun c18 => ?_)
        · rw [bI_e0] at c18
          have hn : cntP (bt w) (t + 1) = cntP (bt w) t := by simp [cntP, c18]
          refine x_iinc dX2_placeOfBit_31 rfl rfl (by decide) rfl ?_
          refine x_goto 5 dX2_placeOfBit_34 (by decide) ?_
          exact x_eql (by show [_, _, _, Value.int _, Value.int _] = _; simp only [hn]; simp [nI_1]) (ih (t + 1) (by omega) (by omega))
        · rw [bI_n0] at c18
          have hn : cntP (bt w) (t + 1) = cntP (bt w) t + 1 := by simp [cntP, c18]
          refine x_iload_n dX2_placeOfBit_21 rfl ?_
          refine x_if_ne 28 dX2_placeOfBit_22 (by decide) (fun c22 => ?_) (fun c22 => ?_)
          · have c22 : j - cntP (bt w) t ≠ 0 := fun z => c22 (by rw [z]; decide +kernel)
            refine x_iinc (v := nI (j - cntP (bt w) (t + 1))) dX2_placeOfBit_28 rfl (by rw [dec1, hn, show j - cntP (bt w) t = (j - (cntP (bt w) t + 1)) + 1 by omega, nI_pred]) (by decide) rfl ?_
            refine x_iinc dX2_placeOfBit_31 rfl rfl (by decide) rfl ?_
            refine x_goto 5 dX2_placeOfBit_34 (by decide) ?_
            exact x_eql (by show [_, _, _, Value.int _, Value.int _] = _; simp only [hn]; simp [nI_1]) (ih (t + 1) (by omega) (by omega))
          · have c22 : j = cntP (bt w) t := by
              rcases Nat.eq_zero_or_pos (j - cntP (bt w) t) with z | z
              · omega
              · exact absurd c22 (nI_ne0 z (by omega))
            refine x_iload dX2_placeOfBit_25 rfl ?_
            exact x_ri dX2_placeOfBit_27 (by rw [c22, plc_at (by omega) c18])
  refine XM.of (own := RX2) (nm := "placeOfBit") (by decide +kernel) rfl rfl (by simp [xla, Value.category]) [.long w, .null, .int (nI j), .null, .null] rfl (Zx.rt ⟨_, rfl⟩) ?_
  refine x_iload_n dX2_placeOfBit_0 rfl ?_
  refine x_istore_n dX2_placeOfBit_1 (by decide) rfl ?_
  refine x_iconst (v := (0)) dX2_placeOfBit_2 (by decide +kernel) ?_
  refine x_istore dX2_placeOfBit_3 (by decide) rfl ?_
  exact x_eql (by show [_, _, _, Value.int _, Value.int _] = _; rfl) (loop 64 0 rfl (Nat.zero_le _))
set_option maxHeartbeats 4000000 in
theorem c_X0_clear (l : Launch) (D : va_G) {K N : Nat → Nat} {R : Nat → Nat → Nat} {I : Nat → Nat → Int32} {J : Nat → Nat → Int64} {sz : Nat} {u : Nat} (uw : UW u K N R)  : XM l D yX0_clear cX0_clear 2 none 0 0 0 [.ref u] K N R I J sz (Zx none K N R (va_up I u (va_up (I u) 0 0)) (clJ J u 64) sz) := by
  have loop : ∀ (t k : Nat), t + k = 64 → XW l D (fun _ => True) RX0 "clear" cX0_clear 2 0 0 0 K sz (Zx none K N R (va_up I u (va_up (I u) 0 0)) (clJ J u 64) sz) 7 [.ref u, .int (nI k)] [] K N R (va_up I u (va_up (I u) 0 0)) (clJ J u k) sz 0 0 := by
    intro t
    induction t with
    | zero =>
      intro k hk
      refine x_iload_n dX0_clear_7 rfl ?_
      refine x_bipush (v := (nI 64)) dX0_clear_8 (by decide +kernel) ?_
      refine x_icmp_ge 33 dX0_clear_10 (by decide) (fun c10 => ?_) (fun c10 => ?_)
      · obtain rfl : k = 64 := by omega
        exact x_rn dX0_clear_33
      · exact absurd (nI_le (by omega) (by omega)) c10
    | succ t ih =>
      intro k hk
      refine x_iload_n dX0_clear_7 rfl ?_
      refine x_bipush (v := (nI 64)) dX0_clear_8 (by decide +kernel) ?_
      refine x_icmp_ge 33 dX0_clear_10 (by decide) (fun c10 => ?_) (fun c10 => ?_)
      · exact absurd c10 (nI_ge (by omega) (by omega))
      · refine x_aload_n dX0_clear_13 rfl ?_
        refine x_getq dX0_clear_14 fl_X0_9 uw.k uw.r1 rfl ?_
        refine x_iload_n dX0_clear_17 rfl ?_
        refine x_lconst (v := 0) dX0_clear_18 (by decide +kernel) ?_
        refine x_last (k) dX0_clear_19 uw.k1 uw.n1 rfl (by omega) (by decide) ?_
        refine x_aload_n dX0_clear_20 rfl ?_
        refine x_getq dX0_clear_21 fl_X0_15 uw.k uw.r2 rfl ?_
        refine x_iload_n dX0_clear_24 rfl ?_
        refine x_lconst (v := 0) dX0_clear_25 (by decide +kernel) ?_
        refine x_last (k) dX0_clear_26 uw.k2 uw.n2 rfl (by omega) (by decide) ?_
        refine x_eqh rfl (clJ_step (by rw [va_up_ne _ _ (show u + 2 ≠ u + 1 by omega)])) ?_
        refine x_iinc dX0_clear_27 rfl rfl (by decide) rfl ?_
        refine x_goto 7 dX0_clear_30 (by decide) ?_
        exact x_eql (by show [_, Value.int _] = _; simp [nI_1]) (ih (k + 1) (by omega))
  refine XM.of (own := RX0) (nm := "clear") (by decide +kernel) rfl rfl (by simp [xla, Value.category]) [.ref u, .null] rfl (Zx.rt rfl) ?_
  refine x_aload_n dX0_clear_0 rfl ?_
  refine x_iconst (v := (0)) dX0_clear_1 (by decide +kernel) ?_
  refine x_puti dX0_clear_2 fl_X0_18 uw.k rfl (Or.inl rfl) ?_
  refine x_iconst (v := (0)) dX0_clear_5 (by decide +kernel) ?_
  refine x_istore_n dX0_clear_6 (by decide) rfl ?_
  exact x_eqh rfl clJ_0.symm (x_eql rfl (loop 64 0 rfl))
set_option maxHeartbeats 4000000 in
theorem c_X0_addArcs (l : Launch) (D : va_G) {K N : Nat → Nat} {R : Nat → Nat → Nat} {I : Nat → Nat → Int32} {J : Nat → Nat → Int64} {sz : Nat} {u : Nat} (uw : UW u K N R) {n : Nat} {w : Int64} (hn : n < 64) : XM l D yX0_addArcs cX0_addArcs 4 none 1 0 0 [.ref u, .int (nI n), .long w] K N R I J sz (Zx none K N R (va_up I u (va_up (I u) 0 (I u 0 + nI (cntP (bt w) 64)))) (va_up J (u + 1) (va_up (J (u + 1)) n (J (u + 1) n ||| w))) sz) := by
  refine XM.of (own := RX0) (nm := "addArcs") (by decide +kernel) rfl rfl (by simp [xla, Value.category]) [.ref u, .int (nI n), .long w, .null] rfl (Zx.rt rfl) ?_
  refine x_aload_n dX0_addArcs_0 rfl ?_
  refine x_getq dX0_addArcs_1 fl_X0_9 uw.k uw.r1 rfl ?_
  refine x_iload_n dX0_addArcs_4 rfl ?_
  refine x_dup2 dX0_addArcs_5 rfl rfl ?_
  refine x_lald (n) dX0_addArcs_6 uw.k1 uw.n1 rfl (by omega) (by decide) ?_
  refine x_lload_n dX0_addArcs_7 rfl ?_
  refine x_lor dX0_addArcs_8 ?_
  refine x_last (n) dX0_addArcs_9 uw.k1 uw.n1 rfl (by omega) (by decide) ?_
  refine x_aload_n dX0_addArcs_10 rfl ?_
  refine x_dup dX0_addArcs_11 rfl ?_
  refine x_geti dX0_addArcs_12 fl_X0_18 uw.k rfl ?_
  refine x_lload_n dX0_addArcs_15 rfl ?_
  refine x_eS (c_J13_bitCount_95d88 l D _) dX0_addArcs_16 lk_X0_22 st_J13_bitCount_95d88 cd_J13_bitCount_95d88 rfl (by decide) rfl (by first | decide | simp [Value.category]) ?_
  refine x_iadd dX0_addArcs_19 ?_
  refine x_puti dX0_addArcs_20 fl_X0_18 uw.k rfl (Or.inl rfl) ?_
  exact x_rn dX0_addArcs_23
set_option maxHeartbeats 4000000 in
theorem c_X0_addColumn (l : Launch) (D : va_G) {K N : Nat → Nat} {R : Nat → Nat → Nat} {I : Nat → Nat → Int32} {J : Nat → Nat → Int64} {sz : Nat} {u : Nat} (uw : UW u K N R) {n c : Nat} (hn : n < 64) : XM l D yX0_addColumn cX0_addColumn 3 none 0 0 0 [.ref u, .int (nI n), .int (nI c)] K N R I J sz (Zx none K N R (va_up I u (va_up (I u) 0 (I u 0 + 1))) (va_up J (u + 2) (va_up (J (u + 2)) n (J (u + 2) n ||| (1 : Int64) <<< ((nI c).toInt64 &&& 63)))) sz) := by
  refine XM.of (own := RX0) (nm := "addColumn") (by decide +kernel) rfl rfl (by simp [xla, Value.category]) [.ref u, .int (nI n), .int (nI c)] rfl (Zx.rt rfl) ?_
  refine x_aload_n dX0_addColumn_0 rfl ?_
  refine x_getq dX0_addColumn_1 fl_X0_15 uw.k uw.r2 rfl ?_
  refine x_iload_n dX0_addColumn_4 rfl ?_
  refine x_dup2 dX0_addColumn_5 rfl rfl ?_
  refine x_lald (n) dX0_addColumn_6 uw.k2 uw.n2 rfl (by omega) (by decide) ?_
  refine x_lconst (v := 1) dX0_addColumn_7 (by decide +kernel) ?_
  refine x_iload_n dX0_addColumn_8 rfl ?_
  refine x_lshl dX0_addColumn_9 rfl ?_
  refine x_lor dX0_addColumn_10 ?_
  refine x_last (n) dX0_addColumn_11 uw.k2 uw.n2 rfl (by omega) (by decide) ?_
  refine x_aload_n dX0_addColumn_12 rfl ?_
  refine x_dup dX0_addColumn_13 rfl ?_
  refine x_geti dX0_addColumn_14 fl_X0_18 uw.k rfl ?_
  refine x_iconst (v := (1)) dX0_addColumn_17 (by decide +kernel) ?_
  refine x_iadd dX0_addColumn_18 ?_
  refine x_puti dX0_addColumn_19 fl_X0_18 uw.k rfl (Or.inl rfl) ?_
  exact x_rn dX0_addColumn_22
set_option maxHeartbeats 4000000 in
theorem c_X0_find (l : Launch) (D : va_G) {K N : Nat → Nat} {R : Nat → Nat → Nat} {I : Nat → Nat → Int32} {J : Nat → Nat → Int64} {sz : Nat} {u : Nat} (uw : UW u K N R) (hm : I u 0 = nI (fL (J (u + 1)) (J (u + 2)) 64).length) (qk : Int32) : XM l D yX0_find cX0_find 6 (some .int) 2 0 0 [.ref u, .int qk] K N R I J sz (Zx (some (.int (if pN (fL (J (u + 1)) (J (u + 2)) 64).length qk then nI (((fL (J (u + 1)) (J (u + 2)) 64)[qk.toNatClampNeg]?).getD 0) else -1))) K N R I J sz) := by
  have hlen0 : (fL (J (u + 1)) (J (u + 2)) 64).length ≤ 64 * 128 := lstP_len (fun f => by have := cnt64 (J (u + 1) f); have := cnt64 (J (u + 2) f); simp [filP_len]; omega) 64
  refine XM.of (own := RX0) (nm := "find") (by decide +kernel) rfl rfl (by simp [xla, Value.category]) [.ref u, .int qk, .null, .null, .null, .null] rfl (Zx.rt ⟨_, rfl⟩) ?_
  refine x_iload_n dX0_find_0 rfl ?_
  refine x_if_lt 12 dX0_find_1 (by decide) (fun c1 => ?_) (fun c1 => ?_)
  · have hz : ¬ pN (fL (J (u + 1)) (J (u + 2)) 64).length qk := fun z => z.1 c1
    refine x_iconst (v := (-1)) dX0_find_12 (by decide +kernel) ?_
    exact x_ri dX0_find_13 (by rw [if_neg hz])
  · obtain ⟨j, hj0, rfl⟩ := nI_of c1
    refine x_iload_n dX0_find_4 rfl ?_
    refine x_aload_n dX0_find_5 rfl ?_
    refine x_geti dX0_find_6 fl_X0_18 uw.k rfl ?_
    refine x_icmp_lt 14 dX0_find_9 (by decide) (fun c9 => ?_) (fun c9 => ?_)
    · have hj : j < (fL (J (u + 1)) (J (u + 2)) 64).length := by
        rw [hm] at c9
        exact (nI_ltI hj0 (by omega)).mp c9
      have hlen : (fL (J (u + 1)) (J (u + 2)) 64).length ≤ 64 * 128 := lstP_len (fun f => by have := cnt64 (J (u + 1) f); have := cnt64 (J (u + 2) f); simp [filP_len]; omega) 64
      have loop : ∀ (Tq n : Nat), Tq + n = 64 → (fL (J (u + 1)) (J (u + 2)) n).length ≤ j → XW l D (fun _ => True) RX0 "find" cX0_find 6 2 0 0 K sz (Zx (some (.int (if pN (fL (J (u + 1)) (J (u + 2)) 64).length (nI j) then nI (((fL (J (u + 1)) (J (u + 2)) 64)[(nI j).toNatClampNeg]?).getD 0) else -1))) K N R I J sz) 18 [.ref u, .int (nI j), .int (nI (j - (fL (J (u + 1)) (J (u + 2)) n).length)), .int (nI n), .null, .null] [] K N R (I) (J) sz 0 0 := by
        intro Tq
        induction Tq with
        | zero =>
          intro n hn hc
          obtain rfl : n = 64 := by omega
          exact absurd hj (by omega)
        | succ Tq ih =>
          intro n hn hc
          have ka := cnt64 (J (u + 1) n)
          have kc := cnt64 (J (u + 2) n)
          have hs := fL_suc (A := J (u + 1)) (Cq := J (u + 2)) (n := n)
          refine x_iload_n dX0_find_18 rfl ?_
          refine x_bipush (v := (nI 64)) dX0_find_19 (by decide +kernel) ?_
          refine x_icmp_ge 109 dX0_find_21 (by decide) (fun c21 => ?_) (fun c21 => ?_)
          · exact absurd c21 (nI_ge (by omega) (by omega))
          · refine x_aload_n dX0_find_24 rfl ?_
            refine x_getq dX0_find_25 fl_X0_9 uw.k uw.r1 rfl ?_
            refine x_iload_n dX0_find_28 rfl ?_
            refine x_lald (n) dX0_find_29 uw.k1 uw.n1 rfl (by omega) (by decide) ?_
            refine x_eS (c_J13_bitCount_95d88 l D _) dX0_find_30 lk_X0_22 st_J13_bitCount_95d88 cd_J13_bitCount_95d88 rfl (by decide) rfl (by first | decide | simp [Value.category]) ?_
            refine x_istore dX0_find_33 (by decide) rfl ?_
            refine x_iload_n dX0_find_35 rfl ?_
            refine x_iload dX0_find_36 rfl ?_
            refine x_icmp_ge 57 dX0_find_38 (by decide) (fun c38 => ?_) (fun c38 => ?_)
            · have c38 : cntP (bt (J (u + 1) n)) 64 ≤ j - (fL (J (u + 1)) (J (u + 2)) n).length := (nI_leI (by omega) (by omega)).mp c38
              refine x_iload_n dX0_find_57 rfl ?_
              refine x_iload dX0_find_58 rfl ?_
              refine x_isub dX0_find_60 ?_
              rw [pk_sub (show cntP (bt (J (u + 1) n)) 64 ≤ j - (fL (J (u + 1)) (J (u + 2)) n).length from c38)]
              refine x_istore_n dX0_find_61 (by decide) rfl ?_
              refine x_aload_n dX0_find_62 rfl ?_
              refine x_getq dX0_find_63 fl_X0_15 uw.k uw.r2 rfl ?_
              refine x_iload_n dX0_find_66 rfl ?_
              refine x_lald (n) dX0_find_67 uw.k2 uw.n2 rfl (by omega) (by decide) ?_
              refine x_eS (c_J13_bitCount_95d88 l D _) dX0_find_68 lk_X0_22 st_J13_bitCount_95d88 cd_J13_bitCount_95d88 rfl (by decide) rfl (by first | decide | simp [Value.category]) ?_
              refine x_istore dX0_find_71 (by decide) rfl ?_
              refine x_iload_n dX0_find_73 rfl ?_
              refine x_iload dX0_find_74 rfl ?_
              refine x_icmp_ge 98 dX0_find_76 (by decide) (fun c76 => ?_) (fun c76 => ?_)
              · have c76 : cntP (bt (J (u + 2) n)) 64 ≤ j - (fL (J (u + 1)) (J (u + 2)) n).length - cntP (bt (J (u + 1) n)) 64 := (nI_leI (by omega) (by omega)).mp c76
                refine x_iload_n dX0_find_98 rfl ?_
                refine x_iload dX0_find_99 rfl ?_
                refine x_isub dX0_find_101 ?_
                rw [pk_sub c76]
                refine x_istore_n dX0_find_102 (by decide) rfl ?_
                refine x_iinc dX0_find_103 rfl rfl (by decide) rfl ?_
                refine x_goto 18 dX0_find_106 (by decide) ?_
                refine x_drop 4 (x_drop 5 ?_)
                exact x_eql (by show [_, _, Value.int _, Value.int _, _, _] = _; rw [hs, show j - ((fL (J (u + 1)) (J (u + 2)) n).length + cntP (bt (J (u + 1) n)) 64 + cntP (bt (J (u + 2) n)) 64) = j - (fL (J (u + 1)) (J (u + 2)) n).length - cntP (bt (J (u + 1) n)) 64 - cntP (bt (J (u + 2) n)) 64 by omega]; simp [nI_1]) (ih (n + 1) (by omega) (by omega))
              · have c76 : j - (fL (J (u + 1)) (J (u + 2)) n).length - cntP (bt (J (u + 1) n)) 64 < cntP (bt (J (u + 2) n)) 64 := by
                  rcases Nat.lt_or_ge (j - (fL (J (u + 1)) (J (u + 2)) n).length - cntP (bt (J (u + 1) n)) 64) (cntP (bt (J (u + 2) n)) 64) with z | z
                  · exact z
                  · exact absurd (nI_le z (by omega)) c76
                have hat := fL_c (A := J (u + 1)) (Cq := J (u + 2)) (show n < 64 by omega) c76
                rw [show (fL (J (u + 1)) (J (u + 2)) n).length + cntP (bt (J (u + 1) n)) 64 + (j - (fL (J (u + 1)) (J (u + 2)) n).length - cntP (bt (J (u + 1) n)) 64) = j by omega] at hat
                refine x_iload_n dX0_find_79 rfl ?_
                refine x_bipush (v := (nI 66)) dX0_find_80 (by decide +kernel) ?_
                refine x_imul dX0_find_82 ?_
                refine x_bipush (v := (nI 64)) dX0_find_83 (by decide +kernel) ?_
                refine x_iadd dX0_find_85 ?_
                refine x_aload_n dX0_find_86 rfl ?_
                refine x_getq dX0_find_87 fl_X0_15 uw.k uw.r2 rfl ?_
                refine x_iload_n dX0_find_90 rfl ?_
                refine x_lald (n) dX0_find_91 uw.k2 uw.n2 rfl (by omega) (by decide) ?_
                refine x_iload_n dX0_find_92 rfl ?_
                refine x_eS (c_X2_placeOfBit l D c76) dX0_find_93 lk_X0_28 st_X2_placeOfBit cd_X2_placeOfBit rfl (by decide) rfl (by first | decide | simp [Value.category]) ?_
                refine x_iadd dX0_find_96 ?_
                exact x_ri dX0_find_97 (by rw [if_pos ((pN_nI (by omega)).mpr hj), nI_clamp (by omega), hat, pk_mul, nI_add, nI_add]; rfl)
            · have c38 : j - (fL (J (u + 1)) (J (u + 2)) n).length < cntP (bt (J (u + 1) n)) 64 := by
                rcases Nat.lt_or_ge (j - (fL (J (u + 1)) (J (u + 2)) n).length) (cntP (bt (J (u + 1) n)) 64) with z | z
                · exact z
                · exact absurd (nI_le z (by omega)) c38
              have hat := fL_a (A := J (u + 1)) (Cq := J (u + 2)) (show n < 64 by omega) c38
              rw [show (fL (J (u + 1)) (J (u + 2)) n).length + (j - (fL (J (u + 1)) (J (u + 2)) n).length) = j by omega] at hat
              refine x_iload_n dX0_find_41 rfl ?_
              refine x_bipush (v := (nI 66)) dX0_find_42 (by decide +kernel) ?_
              refine x_imul dX0_find_44 ?_
              refine x_aload_n dX0_find_45 rfl ?_
              refine x_getq dX0_find_46 fl_X0_9 uw.k uw.r1 rfl ?_
              refine x_iload_n dX0_find_49 rfl ?_
              refine x_lald (n) dX0_find_50 uw.k1 uw.n1 rfl (by omega) (by decide) ?_
              refine x_iload_n dX0_find_51 rfl ?_
              refine x_eS (c_X2_placeOfBit l D c38) dX0_find_52 lk_X0_28 st_X2_placeOfBit cd_X2_placeOfBit rfl (by decide) rfl (by first | decide | simp [Value.category]) ?_
              refine x_iadd dX0_find_55 ?_
              exact x_ri dX0_find_56 (by rw [if_pos ((pN_nI (by omega)).mpr hj), nI_clamp (by omega), hat, pk_mul, nI_add]; rfl)
      refine x_iload_n dX0_find_14 rfl ?_
      refine x_istore_n dX0_find_15 (by decide) rfl ?_
      refine x_iconst (v := (0)) dX0_find_16 (by decide +kernel) ?_
      refine x_istore_n dX0_find_17 (by decide) rfl ?_
      exact x_eql (by show [_, _, Value.int _, Value.int _, _, _] = _; rfl) (loop 64 0 rfl (Nat.zero_le _))
    · have hz : ¬ pN (fL (J (u + 1)) (J (u + 2)) 64).length (nI j) := fun z => c9 (by rw [hm]; exact nI_lt ((pN_nI (by omega)).mp z) (by omega))
      refine x_iconst (v := (-1)) dX0_find_12 (by decide +kernel) ?_
      exact x_ri dX0_find_13 (by rw [if_neg hz])
