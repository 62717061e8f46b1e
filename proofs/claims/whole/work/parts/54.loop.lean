/-! The law's loop and its start -/
theorem sw_in (a : Int32) : (∃ k, k < 22 ∧ a = nI k) ∨ (a.toInt < 0 ∨ 21 < a.toInt) := by
  by_cases h : a.toInt < 0 ∨ 21 < a.toInt
  · exact Or.inr h
  · left
    refine ⟨a.toInt.toNat, by omega, ?_⟩
    apply Int32.toInt_inj.mp
    rw [nI_toInt (by omega)]
    omega
theorem go_on {Ln j : Nat} (hL : Ln ≤ 3072) (hj : 6 * j ≤ Ln) (h : ¬ nI Ln - nI 6 < nI (6 * j)) : 6 * j + 6 ≤ Ln := by
  by_cases c : 6 ≤ Ln
  · rw [nI_sub c, nI_ltI (by omega) (by omega)] at h
    omega
  · exfalso
    apply h
    obtain rfl : j = 0 := by omega
    rcases (show Ln = 0 ∨ Ln = 1 ∨ Ln = 2 ∨ Ln = 3 ∨ Ln = 4 ∨ Ln = 5 by omega) with rfl | rfl | rfl | rfl | rfl | rfl <;> decide +kernel
set_option maxHeartbeats 4000000 in
theorem law_loop (l : Launch) (D : va_G) {X : State → Prop} {nm : String} {mc ms : Nat} {K0 : Nat → Nat} {sz0 : Nat} {Z : ZT} {b Ln x m : Nat} {xs : Nat → Int32} (hX : ∀ s, X s → xscr b Ln xs s) (h0 : K0 (b + 1) = 0) (hL : Ln ≤ 3072) (hZ : ∀ K N R I J sz, Z (some (.int 1)) K N R I J sz) :
    ∀ (T j : Nat), Ln < 6 * (j + T) + 6 → 6 * j ≤ Ln → ∀ (K N : Nat → Nat) (R : Nat → Nat → Nat) (I : Nat → Nat → Int32) (J : Nat → Nat → Int64) (sz nn s nc nv ce : Nat), LI x m K N R sz → Cp x R I J m I J nn s nc nv ce → XW l D X RL nm cL_law 4 6 mc ms K0 sz0 Z 18 [.ref (b + 1), .ref x, .ref m, .int (nI (6 * j))] [] K N R I J sz (4 * T) (263 * T) := by
  have hn : Ln < 2147483648 := by omega
  intro T
  induction T with
  | zero =>
    intro j h1 h2 K N R I J sz nn s nc nv ce li cp
    refine x_iload_n dL_law_18 rfl ?_
    refine x_aload_n dL_law_19 rfl ?_
    refine x_slen hX h0 dL_law_20 ?_
    refine x_bipush (v := nI 6) dL_law_21 (by decide +kernel) ?_
    refine x_isub dL_law_23 ?_
    refine x_icmp_gt 930 dL_law_24 (by decide) (fun c => ?_) (fun c => ?_)
    · refine x_iconst (v := 1) dL_law_930 (by decide +kernel) ?_
      exact x_zi dL_law_931 (hZ _ _ _ _ _ _)
    · have := go_on hL h2 c
      omega
  | succ T ih =>
    intro j h1 h2 K N R I J sz nn s nc nv ce li cp
    refine x_iload_n dL_law_18 rfl ?_
    refine x_aload_n dL_law_19 rfl ?_
    refine x_slen hX h0 dL_law_20 ?_
    refine x_bipush (v := nI 6) dL_law_21 (by decide +kernel) ?_
    refine x_isub dL_law_23 ?_
    refine x_icmp_gt 930 dL_law_24 (by decide) (fun c => ?_) (fun c => ?_)
    · refine x_iconst (v := 1) dL_law_930 (by decide +kernel) ?_
      exact x_zi dL_law_931 (hZ _ _ _ _ _ _)
    · have hj := go_on hL h2 c
      have nx : ∀ (K N : Nat → Nat) (R : Nat → Nat → Nat) (I : Nat → Nat → Int32) (J : Nat → Nat → Int64) (sz nn s nc nv ce : Nat), LI x m K N R sz → Cp x R I J m I J nn s nc nv ce → XW l D X RL nm cL_law 4 6 mc ms K0 sz0 Z 924 [.ref (b + 1), .ref x, .ref m, .int (nI (6 * j))] [] K N R I J sz (4 * T) (263 * T) := by
        intro K N R I J sz nn s nc nv ce li cp
        refine x_iinc (v := nI (6 * (j + 1))) dL_law_924 rfl ?_ (by decide) rfl ?_
        · rw [show Int32.ofInt 6 = nI 6 from by decide +kernel, nI_add]
          rfl
        refine x_goto 18 dL_law_927 (by decide) ?_
        exact ih (j + 1) (by omega) (by omega) K N R I J sz nn s nc nv ce li cp
      refine x_aload_n dL_law_27 rfl ?_
      refine x_iload_n dL_law_28 rfl ?_
      refine x_sld (6 * j) hX h0 dL_law_29 rfl (by omega) hn ?_
      refine x_bipush (v := nI 31) dL_law_30 (by decide +kernel) ?_
      refine x_iand dL_law_32 ?_
      generalize xs (6 * j) &&& nI 31 = a
      rcases sw_in a with ⟨k, hk, rfl⟩ | h
      · rcases (show k = 0 ∨ k = 1 ∨ k = 2 ∨ k = 3 ∨ k = 4 ∨ k = 5 ∨ k = 6 ∨ k = 7 ∨ k = 8 ∨ k = 9 ∨ k = 10 ∨ k = 11 ∨ k = 12 ∨ k = 13 ∨ k = 14 ∨ k = 15 ∨ k = 16 ∨ k = 17 ∨ k = 18 ∨ k = 19 ∨ k = 20 ∨ k = 21 by omega) with rfl | rfl | rfl | rfl | rfl | rfl | rfl | rfl | rfl | rfl | rfl | rfl | rfl | rfl | rfl | rfl | rfl | rfl | rfl | rfl | rfl | rfl
        · refine x_tableIn 136 dL_law_33 (by decide +kernel) (by decide +kernel) (off := 103) (by decide +kernel) (by decide) ?_
          exact x_room (kc' := 4 * T + 4) (ks' := 263 * T + 263) (by omega) (by omega) (cs_graph l D hX h0 hn hj li cp nx)
        · refine x_tableIn 169 dL_law_33 (by decide +kernel) (by decide +kernel) (off := 136) (by decide +kernel) (by decide) ?_
          exact x_room (kc' := 4 * T + 4) (ks' := 263 * T + 263) (by omega) (by omega) (cs_clock l D hX h0 hn hj li cp nx)
        · refine x_tableIn 192 dL_law_33 (by decide +kernel) (by decide +kernel) (off := 159) (by decide +kernel) (by decide) ?_
          exact x_room (kc' := 4 * T + 4) (ks' := 263 * T + 263) (by omega) (by omega) (cs_put l D hX h0 hn hj li cp nx)
        · refine x_tableIn 235 dL_law_33 (by decide +kernel) (by decide +kernel) (off := 202) (by decide +kernel) (by decide) ?_
          exact x_room (kc' := 4 * T + 4) (ks' := 263 * T + 263) (by omega) (by omega) (cs_take l D hX h0 hn hj li cp nx)
        · refine x_tableIn 278 dL_law_33 (by decide +kernel) (by decide +kernel) (off := 245) (by decide +kernel) (by decide) ?_
          exact x_room (kc' := 4 * T + 4) (ks' := 263 * T + 263) (by omega) (by omega) (cs_set l D hX h0 hn hj li cp nx)
        · refine x_tableIn 361 dL_law_33 (by decide +kernel) (by decide +kernel) (off := 328) (by decide +kernel) (by decide) ?_
          exact x_room (kc' := 4 * T + 4) (ks' := 263 * T + 263) (by omega) (by omega) (cs_has l D hX h0 hn hj li cp nx)
        · refine x_tableIn 404 dL_law_33 (by decide +kernel) (by decide +kernel) (off := 371) (by decide +kernel) (by decide) ?_
          exact x_room (kc' := 4 * T + 4) (ks' := 263 * T + 263) (by omega) (by omega) (cs_at l D hX h0 hn hj li cp nx)
        · refine x_tableIn 448 dL_law_33 (by decide +kernel) (by decide +kernel) (off := 415) (by decide +kernel) (by decide) ?_
          exact x_room (kc' := 4 * T + 4) (ks' := 263 * T + 263) (by omega) (by omega) (cs_arc l D hX h0 hn hj li cp nx)
        · refine x_tableIn 491 dL_law_33 (by decide +kernel) (by decide +kernel) (off := 458) (by decide +kernel) (by decide) ?_
          exact x_room (kc' := 4 * T + 4) (ks' := 263 * T + 263) (by omega) (by omega) (cs_reach l D hX h0 hn hj li cp nx)
        · refine x_tableIn 534 dL_law_33 (by decide +kernel) (by decide +kernel) (off := 501) (by decide +kernel) (by decide) ?_
          exact x_room (kc' := 4 * T + 4) (ks' := 263 * T + 263) (by omega) (by omega) (cs_rows l D hX h0 hn hj li cp nx)
        · refine x_tableIn 567 dL_law_33 (by decide +kernel) (by decide +kernel) (off := 534) (by decide +kernel) (by decide) ?_
          exact x_room (kc' := 4 * T + 4) (ks' := 263 * T + 263) (by omega) (by omega) (cs_row l D hX h0 hn hj li cp nx)
        · refine x_tableIn 600 dL_law_33 (by decide +kernel) (by decide +kernel) (off := 567) (by decide +kernel) (by decide) ?_
          exact x_room (kc' := 4 * T + 4) (ks' := 263 * T + 263) (by omega) (by omega) (cs_was l D hX h0 hn hj li cp nx)
        · refine x_tableIn 634 dL_law_33 (by decide +kernel) (by decide +kernel) (off := 601) (by decide +kernel) (by decide) ?_
          exact x_room (kc' := 4 * T + 4) (ks' := 263 * T + 263) (by omega) (by omega) (cs_turn l D hX h0 hn hj li cp nx)
        · refine x_tableIn 657 dL_law_33 (by decide +kernel) (by decide +kernel) (off := 624) (by decide +kernel) (by decide) ?_
          exact x_room (kc' := 4 * T + 4) (ks' := 263 * T + 263) (by omega) (by omega) (cs_join l D hX h0 hn hj li cp nx)
        · refine x_tableIn 700 dL_law_33 (by decide +kernel) (by decide +kernel) (off := 667) (by decide +kernel) (by decide) ?_
          exact x_room (kc' := 4 * T + 4) (ks' := 263 * T + 263) (by omega) (by omega) (cs_conflict l D hX h0 hn hj li cp nx)
        · refine x_tableIn 733 dL_law_33 (by decide +kernel) (by decide +kernel) (off := 700) (by decide +kernel) (by decide) ?_
          exact x_room (kc' := 4 * T + 4) (ks' := 263 * T + 263) (by omega) (by omega) (cs_letGo l D hX h0 hn hj li cp nx)
        · refine x_tableIn 756 dL_law_33 (by decide +kernel) (by decide +kernel) (off := 723) (by decide +kernel) (by decide) ?_
          exact x_room (kc' := 4 * T + 4) (ks' := 263 * T + 263) (by omega) (by omega) (cs_chunk l D hX h0 hn hj li cp nx)
        · refine x_tableIn 789 dL_law_33 (by decide +kernel) (by decide +kernel) (off := 756) (by decide +kernel) (by decide) ?_
          exact x_room (kc' := 4 * T + 4) (ks' := 263 * T + 263) (by omega) (by omega) (cs_shared l D hX h0 hn hj li cp nx)
        · refine x_tableIn 822 dL_law_33 (by decide +kernel) (by decide +kernel) (off := 789) (by decide +kernel) (by decide) ?_
          exact x_room (kc' := 4 * T + 4) (ks' := 263 * T + 263) (by omega) (by omega) (cs_parent l D hX h0 hn hj li cp nx)
        · refine x_tableIn 845 dL_law_33 (by decide +kernel) (by decide +kernel) (off := 812) (by decide +kernel) (by decide) ?_
          exact x_room (kc' := 4 * T + 4) (ks' := 263 * T + 263) (by omega) (by omega) (cs_ancestor l D hX h0 hn hj li cp nx)
        · refine x_tableIn 878 dL_law_33 (by decide +kernel) (by decide +kernel) (off := 845) (by decide +kernel) (by decide) ?_
          exact x_room (kc' := 4 * T + 4) (ks' := 263 * T + 263) (by omega) (by omega) (cs_time l D hX h0 hn hj li cp nx)
        · refine x_tableIn 901 dL_law_33 (by decide +kernel) (by decide +kernel) (off := 868) (by decide +kernel) (by decide) ?_
          exact x_room (kc' := 4 * T + 4) (ks' := 263 * T + 263) (by omega) (by omega) (cs_count l D hX h0 hn hj li cp nx)
      · refine x_tableOut 924 dL_law_33 h (by decide) ?_
        exact x_room (kc' := 4 * T) (ks' := 263 * T) (by omega) (by omega) (nx _ _ _ _ _ _ _ _ _ _ _ li cp)
theorem cp_init {x m : Nat} {R : Nat → Nat → Nat} {I Im : Nat → Nat → Int32} {J Jm : Nat → Nat → Int64} (r1 : R (x + 1) = fun _ => 0) (r3 : R x 3 = 0) (r4 : R x 4 = 0) (i0 : I x = va_up (fun _ => 0) 6 1) (i2 : I (x + 2) = fun _ => 0) (i5 : I (x + 5) = fun _ => 0) (j3 : J (x + 3) = fun _ => 0) (j4 : J (x + 4) = fun _ => 0) (j6 : J (x + 6) = fun _ => 0) (j7 : J (x + 7) = fun _ => 0) (im : Im m = fun _ => 0) : Cp x R I J m Im Jm 0 1 0 0 0 := by
  have z0 : nI 0 = 0 := nI_0
  refine ⟨⟨⟨by omega, by omega, by omega, rfl, by omega, by omega⟩, ?_, ?_, Or.inl ⟨rfl, rfl, by rw [im, z0]⟩⟩, fun v hv => absurd hv (by omega), fun v hv => absurd hv (by omega), fun h => absurd (by rw [r1]) h, ⟨0, 0, ?_, rfl, ?_, rfl⟩, Or.inl ⟨?_, r3, r4, ?_, ?_, fun n _ => ?_⟩, ⟨[], by simp, fun i q z => by simp at z, ?_, ?_, ?_⟩⟩
  · rw [i0, z0]
    exact ⟨rfl, by decide +kernel, rfl, rfl, rfl⟩
  · rw [im, i0, z0]
    exact ⟨rfl, rfl, rfl, rfl, rfl⟩
  · rw [i0, z0]; rfl
  · rw [i0, z0]; rfl
  · rw [im]
  · rw [im]
  · rw [i2]
  · rw [j3, j4]; exact ⟨rfl, rfl⟩
  · rw [j6, j7]; exact fL_z fun n _ => ⟨rfl, rfl⟩
  · rw [i5]; exact z0.symm
  · rw [im]; exact z0.symm
set_option maxHeartbeats 4000000 in
theorem law_start (l : Launch) (D : va_G) {X : State → Prop} {nm : String} {mc ms : Nat} {sz0 : Nat} {Z : ZT} {b Ln T ka kb : Nat} {xs : Nat → Int32} (hX : ∀ s, X s → xscr b Ln xs s) (hT : Ln < 6 * (0 + T) + 6) (hka : ka = 4 * T) (hkb : kb = 263 * T) (hL : Ln ≤ 3072) (hZ : ∀ K N R I J sz, Z (some (.int 1)) K N R I J sz) :
    XW l D X RL nm cL_law 4 6 mc ms (fun _ => 0) sz0 Z 0 [.ref (b + 1), .null, .null, .null] [] (fun _ => 0) (fun _ => 0) (fun _ _ => 0) (fun _ _ => 0) (fun _ _ => 0) sz0 (ka + 13 + 1 + 7 + 1) (kb + 40948 + 22 + 322 + 13) := by
  refine x_new (kc := ka + 13 + 1 + 7) (ks := kb + 40948 + 22 + 322) dL_law_0 nw_L_7 ?_
  refine x_dup dL_law_3 rfl ?_
  refine x_cI (kc := ka + 13 + 1) (ks := kb + 40948 + 22) (mc1 := 7) (ms1 := 322) (c_X2_init l D (K := va_up (fun _ => 0) (sz0 + 1) (2 + 1)) (N := va_up (fun _ => 0) (sz0 + 1) 0) (R := va_up (fun _ _ => 0) (sz0 + 1) (fun _ => 0)) (I := va_up (fun _ _ => 0) (sz0 + 1) (fun _ => 0)) (J := va_up (fun _ _ => 0) (sz0 + 1) (fun _ => 0)) (sz := sz0 + 1) (va_up_self _ _ _) (va_up_self _ _ _) (va_up_self _ _ _) (by omega)) dL_law_4 lk_L_9 im_X2_init rfl cd_X2_init (by omega) rfl (by decide) rfl (by simp [Value.category]) ?_
  rintro v K N R I J sz ⟨rfl, cw, r1, r3, r4, i0, i2, i5, j3, j4, j6, j7, rfl⟩ -
  refine x_dom (fun hdom => ?_)
  obtain ⟨x, hx⟩ : ∃ x, x = sz0 + 1 := ⟨_, rfl⟩
  rw [← hx] at cw r1 r3 r4 i0 i2 i5 j3 j4 j6 j7 hdom ⊢
  show XW l D X RL nm cL_law 4 6 mc ms (fun _ => 0) sz0 Z 7 [.ref (b + 1), .null, .null, .null] [.ref x] K N R I J (x + 7) (ka + 13 + 1) (kb + 40948 + 22)
  refine x_astore_n dL_law_7 (by decide) rfl ?_
  refine x_new (kc := ka + 13) (ks := kb + 40948) dL_law_8 nw_L_10 ?_
  refine x_dup dL_law_11 rfl ?_
  have hd2 : ∀ q, K q ≠ 0 → q ≤ x + 7 := hdom
  refine x_callI (kc := ka) (ks := kb) (mc1 := 13) (ms1 := 40948) (c_X3_init l D (K := mK (x + 7 + 1) (va_up K (x + 7 + 1) (3 + 1))) (N := va_up N (x + 7 + 1) 0) (R := va_up R (x + 7 + 1) (fun _ => 0)) (I := va_up I (x + 7 + 1) (fun _ => 0)) (J := va_up J (x + 7 + 1) (fun _ => 0)) (sz := x + 7 + 1) (by rw [mK_i (by omega), va_up_self]) (va_up_self _ _ _) (by omega)) ⟨?_, fun r hr => ?_⟩ dL_law_12 lk_L_12 im_X3_init rfl cd_X3_init (by omega) rfl (by decide) rfl (by simp [Value.category]) ?_
  · exact mK_o (by omega)
  · rw [mK_i (mK_n hr)]; exact ⟨rfl, rfl, rfl, rfl, rfl⟩
  · rintro v K' N' R' I' J' sz' ⟨rfl, mw, im, rfl⟩ - - -
    obtain ⟨m, hm⟩ : ∃ m, m = x + 7 + 1 := ⟨_, rfl⟩
    rw [← hm] at mw im ⊢
    have lo : ∀ q, q < m → ¬ (mK m (va_up K m (3 + 1)) q ≠ 0 ∨ m < q) := fun q hq z => by
      rcases z with z | z
      · have := mK_n z; omega
      · omega
    have hi : ∀ q, q < 14 → (mK m (va_up K m (3 + 1)) (m + q) ≠ 0 ∨ m < m + q) := fun q hq => by
      by_cases z : q = 0
      · subst z
        left
        rw [mK_i (by omega)]
        show va_up K m (3 + 1) m ≠ 0
        rw [va_up_self]
        omega
      · right; omega
    refine x_astore_n dL_law_15 (by decide) rfl ?_
    refine x_iconst (v := nI 0) dL_law_16 (by decide +kernel) ?_
    refine x_istore_n dL_law_17 (by decide) rfl ?_
    have kc : ∀ q, K q ≠ 0 → xK m (xmg (mK m (va_up K m (3 + 1))) m K' (va_up K m (3 + 1))) q = K q ∧ xmg (mK m (va_up K m (3 + 1))) m N' (va_up N m 0) q = N q ∧ xmg (mK m (va_up K m (3 + 1))) m R' (va_up R m (fun _ => 0)) q = R q ∧ xmg (mK m (va_up K m (3 + 1))) m I' (va_up I m (fun _ => 0)) q = I q ∧ xmg (mK m (va_up K m (3 + 1))) m J' (va_up J m (fun _ => 0)) q = J q := by
      intro q hq
      have ql := hd2 q hq
      rw [xK_o (by omega), xmg_f (lo q (by omega)), xmg_f (lo q (by omega)), xmg_f (lo q (by omega)), xmg_f (lo q (by omega)), xmg_f (lo q (by omega)), va_up_ne _ _ (by omega), va_up_ne _ _ (by omega), va_up_ne _ _ (by omega), va_up_ne _ _ (by omega), va_up_ne _ _ (by omega)]
      exact ⟨rfl, rfl, rfl, rfl, rfl⟩
    have li : LI x m (xmg (mK m (va_up K m (3 + 1))) m K' (va_up K m (3 + 1))) (xmg (mK m (va_up K m (3 + 1))) m N' (va_up N m 0)) (xmg (mK m (va_up K m (3 + 1))) m R' (va_up R m (fun _ => 0))) (m + 13) :=
      ⟨by omega, Nat.le_refl _, cw.keep fun q hq => ⟨(kc q hq).1, (kc q hq).2.1, (kc q hq).2.2.1⟩, mw.keep fun q hq => ⟨xmg_t (hi q hq), xmg_t (hi q hq), xmg_t (hi q hq)⟩⟩
    have cp0 : Cp x R I J m I' J' 0 1 0 0 0 := cp_init r1 r3 r4 i0 i2 i5 j3 j4 j6 j7 im
    have cp1 := cp0.ext (R2 := xmg (mK m (va_up K m (3 + 1))) m R' (va_up R m (fun _ => 0))) (I2 := xmg (mK m (va_up K m (3 + 1))) m I' (va_up I m (fun _ => 0))) (J2 := xmg (mK m (va_up K m (3 + 1))) m J' (va_up J m (fun _ => 0))) (Im2 := xmg (mK m (va_up K m (3 + 1))) m I' (va_up I m (fun _ => 0))) (Jm2 := xmg (mK m (va_up K m (3 + 1))) m J' (va_up J m (fun _ => 0))) cw (fun q hq => (kc q hq).2.2) (fun q hq => ⟨xmg_t (hi q (by omega)), xmg_t (hi q (by omega))⟩)
    rw [hka, hkb]
    exact law_loop l D hX rfl hL hZ T 0 hT (by omega) _ _ _ _ _ _ _ _ _ _ _ li cp1
