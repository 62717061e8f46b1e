/-! The class: turn, join: the items -/
def tiW (w u b : Int64) : Int64 := (w &&& (u ^^^ (-1))) ||| (b &&& u)
def tiA (A U B : Nat → Int64) (k : Nat) : Nat → Int64 := fun n => if n < k then tiW (A n) (U n) (B n) else A n
def tiC (Cc V B : Nat → Int64) (k : Nat) : Nat → Int64 := fun i => if i < k ∧ bt (V (i / 2)) (i % 2) = true then B i else Cc i
theorem tiA_step {A U B : Nat → Int64} {k : Nat} {w : Int64} (hw : w = tiW (A k) (U k) (B k)) : va_up (tiA A U B k) k w = tiA A U B (k + 1) := by
  funext n
  by_cases h : n = k
  · subst h; rw [va_up_self, hw]; simp [tiA]
  · rw [va_up_ne _ _ h]
    simp only [tiA]
    by_cases h2 : n < k
    · rw [if_pos h2, if_pos (show n < k + 1 by omega)]
    · rw [if_neg h2, if_neg (show ¬ n < k + 1 by omega)]
theorem tiA_0 {A U B : Nat → Int64} : tiA A U B 0 = A := by funext n; simp [tiA]
theorem tiC_0 {A U B : Nat → Int64} : tiC A U B 0 = A := by funext n; simp [tiC]
theorem tiC_t {Cc V B : Nat → Int64} {k : Nat} (h : bt (V (k / 2)) (k % 2) = true) : va_up (tiC Cc V B k) k (B k) = tiC Cc V B (k + 1) := by
  funext n
  by_cases e : n = k
  · subst e; rw [va_up_self]; simp [tiC, h]
  · rw [va_up_ne _ _ e]
    have : n < k ↔ n < k + 1 := by omega
    simp only [tiC, this]
theorem tiC_f {Cc V B : Nat → Int64} {k : Nat} (h : bt (V (k / 2)) (k % 2) = false) : tiC Cc V B k = tiC Cc V B (k + 1) := by
  funext n
  by_cases e : n = k
  · subst e; simp [tiC, h]
  · have : n < k ↔ n < k + 1 := by omega
    simp only [tiC, this]
def jiW (w o b : Int64) : Int64 := (w &&& (w ^^^ o)) ||| (b &&& ((w ^^^ o) ^^^ (-1)))
def jiA (A O B : Nat → Int64) (k : Nat) : Nat → Int64 := fun n => if n < k then jiW (A n) (O n) (B n) else A n
def jiC (Cc O B : Nat → Int64) (k : Nat) : Nat → Int64 := fun i => if i < k ∧ Cc i = O i then B i else Cc i
theorem jiA_step {A U B : Nat → Int64} {k : Nat} {w : Int64} (hw : w = jiW (A k) (U k) (B k)) : va_up (jiA A U B k) k w = jiA A U B (k + 1) := by
  funext n
  by_cases h : n = k
  · subst h; rw [va_up_self, hw]; simp [jiA]
  · rw [va_up_ne _ _ h]
    simp only [jiA]
    by_cases h2 : n < k
    · rw [if_pos h2, if_pos (show n < k + 1 by omega)]
    · rw [if_neg h2, if_neg (show ¬ n < k + 1 by omega)]
theorem jiA_0 {A U B : Nat → Int64} : jiA A U B 0 = A := by funext n; simp [jiA]
theorem jiC_0 {A U B : Nat → Int64} : jiC A U B 0 = A := by funext n; simp [jiC]
theorem jiC_t {Cc V B : Nat → Int64} {k : Nat} (h : Cc k = V k) : va_up (jiC Cc V B k) k (B k) = jiC Cc V B (k + 1) := by
  funext n
  by_cases e : n = k
  · subst e; rw [va_up_self]; simp [jiC, h]
  · rw [va_up_ne _ _ e]
    have : n < k ↔ n < k + 1 := by omega
    simp only [jiC, this]
theorem jiC_f {Cc V B : Nat → Int64} {k : Nat} (h : ¬ Cc k = V k) : jiC Cc V B k = jiC Cc V B (k + 1) := by
  funext n
  by_cases e : n = k
  · subst e; simp [jiC, h]
  · have : n < k ↔ n < k + 1 := by omega
    simp only [jiC, this]
def tiJ (J : Nat → Nat → Int64) (x r b k e : Nat) : Nat → Nat → Int64 := va_up (va_up J (r + 1) (tiA (J (r + 1)) (J (x + 2 + 1)) (J (b + 1)) k)) (r + 2) (tiC (J (r + 2)) (J (x + 2 + 2)) (J (b + 2)) e)
def jiJ (J : Nat → Nat → Int64) (r o b k e : Nat) : Nat → Nat → Int64 := va_up (va_up J (r + 1) (jiA (J (r + 1)) (J (o + 1)) (J (b + 1)) k)) (r + 2) (jiC (J (r + 2)) (J (o + 2)) (J (b + 2)) e)
set_option maxHeartbeats 4000000 in
theorem c_X2_turnItems (l : Launch) (D : va_G) {K N : Nat → Nat} {R : Nat → Nat → Nat} {I : Nat → Nat → Int32} {J : Nat → Nat → Int64} {sz : Nat} {x : Nat} (cw : CW x K N R) {r b : Nat} (vr : VW r K N R) (vb : VW b K N R) {nn : Nat} (h5 : I x 5 = nI nn) (hnn : nn ≤ 64) (gr : x + 8 ≤ r) (gb : x + 8 ≤ b) (hap : b + 4 ≤ r ∨ r + 4 ≤ b) : XM l D yX2_turnItems cX2_turnItems 7 none 2 0 0 [.ref x, .ref r, .ref b] K N R I J sz (Zx none K N R I (tiJ J x r b nn (nn * 2)) sz) := by
  have loop : ∀ (t k : Nat), t + k = nn → XW l D (fun _ => True) RX2 "turnItems" cX2_turnItems 7 2 0 0 K sz (Zx none K N R I (tiJ J x r b nn (nn * 2)) sz) 2 [.ref x, .ref r, .ref b, .int (nI k), .null, .null, .null] [] K N R (I) (tiJ J x r b k (k * 2)) sz 0 0 := by
    intro t
    induction t with
    | zero =>
      intro k hk
      refine x_iload_n dX2_turnItems_2 rfl ?_
      refine x_aload_n dX2_turnItems_3 rfl ?_
      refine x_geti dX2_turnItems_4 fl_X2_29 cw.k rfl ?_
      refine x_icmp_ge 106 dX2_turnItems_7 (by decide) (fun c7 => ?_) (fun c7 => ?_)
      · obtain rfl : k = nn := by omega
        exact x_rn dX2_turnItems_106
      · exact absurd (by rw [h5]; exact nI_le (by omega) (by omega)) c7
    | succ t ih =>
      intro k hk
      have col : ∀ (t2 c : Nat), t2 + c = 2 → XW l D (fun _ => True) RX2 "turnItems" cX2_turnItems 7 2 0 0 K sz (Zx none K N R I (tiJ J x r b nn (nn * 2)) sz) 53 [.ref x, .ref r, .ref b, .int (nI k), .null, .null, .int (nI c)] [] K N R (I) (tiJ J x r b (k + 1) (k * 2 + c)) sz 0 0 := by
        intro t2
        induction t2 with
        | zero =>
          intro c hc
          obtain rfl : c = 2 := by omega
          refine x_iload dX2_turnItems_53 rfl ?_
          refine x_iconst (v := (2)) dX2_turnItems_55 (by decide +kernel) ?_
          refine x_icmp_ge 100 dX2_turnItems_56 (by decide) (fun c56 => ?_) (fun c56 => ?_)
          · refine x_iinc dX2_turnItems_100 rfl rfl (by decide) rfl ?_
            refine x_goto 2 dX2_turnItems_103 (by decide) ?_
            refine x_drop 6 ?_
            refine x_eqh (J' := tiJ J x r b (k + 1) ((k + 1) * 2)) rfl (by rw [show (k + 1) * 2 = k * 2 + 2 by omega]) (x_eql (by show [_, _, _, Value.int _, _, _, _] = _; simp [nI_1]) (ih (k + 1) (by omega)))
          · exact absurd (nI_le (Nat.le_refl 2) (by omega)) c56
        | succ t2 ih2 =>
          intro c hc
          have e1 : (k * 2 + c) / 2 = k := by omega
          have e2 : (k * 2 + c) % 2 = c := by omega
          have rv : tiJ J x r b (k + 1) (k * 2 + c) (x + 2 + 2) = J (x + 2 + 2) := up2_ro (by omega) (by omega)
          have rb : tiJ J x r b (k + 1) (k * 2 + c) (b + 2) = J (b + 2) := up2_ro (by omega) (by omega)
          refine x_iload dX2_turnItems_53 rfl ?_
          refine x_iconst (v := (2)) dX2_turnItems_55 (by decide +kernel) ?_
          refine x_icmp_ge 100 dX2_turnItems_56 (by decide) (fun c56 => ?_) (fun c56 => ?_)
          · exact absurd c56 (nI_ge (show c < 2 by omega) (by decide))
          · refine x_aload_n dX2_turnItems_59 rfl ?_
            refine x_getq dX2_turnItems_60 fl_X2_18 cw.k cw.r1 rfl ?_
            refine x_getq dX2_turnItems_63 fl_X2_206 cw.wu.k cw.wu.r2 rfl ?_
            refine x_iload_n dX2_turnItems_66 rfl ?_
            refine x_lald (k) dX2_turnItems_67 cw.wu.k2 cw.wu.n2 rfl (by omega) (by decide) ?_
            rw [rv]
            refine x_iload dX2_turnItems_68 rfl ?_
            refine x_eS (c_X2_isBitSet l D (t := c) (by omega)) dX2_turnItems_70 lk_X2_123 st_X2_isBitSet cd_X2_isBitSet rfl (by decide) rfl (by first | decide | simp [Value.category]) ?_
            refine x_if_eq 94 dX2_turnItems_73 (by decide) (fun c73 => ?_) (fun c73 => ?_)
            · rw [bI_e0] at c73
              have hq := ih2 (c + 1) (by omega)
              rw [← Nat.add_assoc, show tiJ J x r b (k + 1) (k * 2 + c + 1) = tiJ J x r b (k + 1) (k * 2 + c) from by rw [tiJ, tiJ, ← tiC_f (k := k * 2 + c) (by rw [e1, e2]; simpa using c73)]] at hq
              refine x_iinc dX2_turnItems_94 rfl rfl (by decide) rfl ?_
              refine x_goto 53 dX2_turnItems_97 (by decide) ?_
              exact x_eql (by show [_, _, _, _, _, _, Value.int _] = _; simp [nI_1]) hq
            · rw [bI_n0] at c73
              have hq := ih2 (c + 1) (by omega)
              rw [← Nat.add_assoc] at hq
              refine x_aload_n dX2_turnItems_76 rfl ?_
              refine x_getq dX2_turnItems_77 fl_X2_86 vr.k vr.r5 rfl ?_
              refine x_iload_n dX2_turnItems_80 rfl ?_
              refine x_iconst (v := (nI 2)) dX2_turnItems_81 (by decide +kernel) ?_
              refine x_imul dX2_turnItems_82 ?_
              refine x_iload dX2_turnItems_83 rfl ?_
              refine x_iadd dX2_turnItems_85 ?_
              refine x_aload_n dX2_turnItems_86 rfl ?_
              refine x_iload_n dX2_turnItems_87 rfl ?_
              refine x_iload dX2_turnItems_88 rfl ?_
              rw [pk_mul, nI_add]
              refine x_eV (c_X1_numberAt l D vb (n := k) (c := c) (by omega) (by omega)) dX2_turnItems_90 lk_X2_82 im_X1_numberAt se_X1_numberAt cd_X1_numberAt (by decide) vb.k vcX1 rfl (by decide) rfl (by first | decide | simp [Value.category]) ?_
              rw [rb]
              refine x_last (k * 2 + c) dX2_turnItems_93 vr.k5 vr.n5 rfl (by omega) (by decide) ?_
              refine x_eqh (J' := tiJ J x r b (k + 1) (k * 2 + c + 1)) rfl ?_ ?_
              · rw [tiJ, tiJ, va_up_self, va_up_up, tiC_t (by rw [e1, e2]; exact c73)]
              refine x_iinc dX2_turnItems_94 rfl rfl (by decide) rfl ?_
              refine x_goto 53 dX2_turnItems_97 (by decide) ?_
              exact x_eql (by show [_, _, _, _, _, _, Value.int _] = _; simp [nI_1]) hq
      refine x_iload_n dX2_turnItems_2 rfl ?_
      refine x_aload_n dX2_turnItems_3 rfl ?_
      refine x_geti dX2_turnItems_4 fl_X2_29 cw.k rfl ?_
      refine x_icmp_ge 106 dX2_turnItems_7 (by decide) (fun c7 => ?_) (fun c7 => ?_)
      · rw [h5] at c7; exact absurd c7 (nI_ge (by omega) (by omega))
      · refine x_aload_n dX2_turnItems_10 rfl ?_
        refine x_getq dX2_turnItems_11 fl_X2_18 cw.k cw.r1 rfl ?_
        refine x_getq dX2_turnItems_14 fl_X2_203 cw.wu.k cw.wu.r1 rfl ?_
        refine x_iload_n dX2_turnItems_17 rfl ?_
        refine x_lald (k) dX2_turnItems_18 cw.wu.k1 cw.wu.n1 rfl (by omega) (by decide) ?_
        refine x_lstore dX2_turnItems_19 (by decide) rfl ?_
        refine x_aload_n dX2_turnItems_21 rfl ?_
        refine x_getq dX2_turnItems_22 fl_X2_110 vr.k vr.r4 rfl ?_
        refine x_iload_n dX2_turnItems_25 rfl ?_
        refine x_aload_n dX2_turnItems_26 rfl ?_
        refine x_getq dX2_turnItems_27 fl_X2_110 vr.k vr.r4 rfl ?_
        refine x_iload_n dX2_turnItems_30 rfl ?_
        refine x_lald (k) dX2_turnItems_31 vr.k4 vr.n4 rfl (by omega) (by decide) ?_
        refine x_lload dX2_turnItems_32 rfl ?_
        refine x_ldc2 dX2_turnItems_34 kl_X2_204 ?_
        refine x_lxor dX2_turnItems_37 ?_
        refine x_land dX2_turnItems_38 ?_
        refine x_aload_n dX2_turnItems_39 rfl ?_
        refine x_getq dX2_turnItems_40 fl_X2_110 vb.k vb.r4 rfl ?_
        refine x_iload_n dX2_turnItems_43 rfl ?_
        refine x_lald (k) dX2_turnItems_44 vb.k4 vb.n4 rfl (by omega) (by decide) ?_
        refine x_lload dX2_turnItems_45 rfl ?_
        refine x_land dX2_turnItems_47 ?_
        refine x_lor dX2_turnItems_48 ?_
        refine x_last (k) dX2_turnItems_49 vr.k4 vr.n4 rfl (by omega) (by decide) ?_
        refine x_eqh (J' := tiJ J x r b (k + 1) (k * 2 + 0)) rfl ?_ ?_
        · rw [tiJ, up2_ra (show r + 1 ≠ r + 2 by omega), up2_a (show r + 1 ≠ r + 2 by omega), up2_ro (show x + 2 + 1 ≠ r + 1 by omega) (show x + 2 + 1 ≠ r + 2 by omega), up2_ro (show b + 1 ≠ r + 1 by omega) (show b + 1 ≠ r + 2 by omega), tiA_step (by simp [tiA, tiW]), tiJ]
          rfl
        refine x_iconst (v := (0)) dX2_turnItems_50 (by decide +kernel) ?_
        refine x_istore dX2_turnItems_51 (by decide) rfl ?_
        refine x_drop 4 ?_
        exact x_eql rfl (col 2 0 rfl)
  refine XM.of (own := RX2) (nm := "turnItems") (by decide +kernel) rfl rfl (by simp [xla, Value.category]) [.ref x, .ref r, .ref b, .null, .null, .null, .null] rfl (Zx.rt rfl) ?_
  refine x_iconst (v := (0)) dX2_turnItems_0 (by decide +kernel) ?_
  refine x_istore_n dX2_turnItems_1 (by decide) rfl ?_
  refine x_eqh (J' := tiJ J x r b 0 (0 * 2)) rfl ?_ (x_eql rfl (loop nn 0 rfl))
  rw [tiJ, tiA_0, Nat.zero_mul, tiC_0, va_up_id, va_up_id]
set_option maxHeartbeats 4000000 in
theorem c_X2_joinItems (l : Launch) (D : va_G) {K N : Nat → Nat} {R : Nat → Nat → Nat} {I : Nat → Nat → Int32} {J : Nat → Nat → Int64} {sz : Nat} {x : Nat} (cw : CW x K N R) {r o b : Nat} (vr : VW r K N R) (vo : VW o K N R) (vb : VW b K N R) {nn : Nat} (h5 : I x 5 = nI nn) (hnn : nn ≤ 64) (hao : o + 4 ≤ r ∨ r + 4 ≤ o) (hap : b + 4 ≤ r ∨ r + 4 ≤ b) : XM l D yX2_joinItems cX2_joinItems 7 none 0 0 0 [.ref x, .ref r, .ref o, .ref b] K N R I J sz (Zx none K N R I (jiJ J r o b nn (nn * 2)) sz) := by
  have loop2 : ∀ (t k : Nat), t + k = nn * 2 → XW l D (fun _ => True) RX2 "joinItems" cX2_joinItems 7 0 0 0 K sz (Zx none K N R I (jiJ J r o b nn (nn * 2)) sz) 70 [.ref x, .ref r, .ref o, .ref b, .int (nI k), .null, .null] [] K N R (I) (jiJ J r o b nn k) sz 0 0 := by
    intro t
    induction t with
    | zero =>
      intro k hk
      refine x_iload dX2_joinItems_70 rfl ?_
      refine x_aload_n dX2_joinItems_72 rfl ?_
      refine x_geti dX2_joinItems_73 fl_X2_29 cw.k rfl ?_
      refine x_iconst (v := (nI 2)) dX2_joinItems_76 (by decide +kernel) ?_
      refine x_imul dX2_joinItems_77 ?_
      refine x_icmp_ge 119 dX2_joinItems_78 (by decide) (fun c78 => ?_) (fun c78 => ?_)
      · obtain rfl : k = nn * 2 := by omega
        exact x_rn dX2_joinItems_119
      · exact absurd (by rw [h5, pk_mul]; exact nI_le (by omega) (by omega)) c78
    | succ t ih =>
      intro k hk
      have ro : jiJ J r o b nn k (o + 2) = J (o + 2) := up2_ro (by omega) (by omega)
      have rb : jiJ J r o b nn k (b + 2) = J (b + 2) := up2_ro (by omega) (by omega)
      have rc : jiJ J r o b nn k (r + 2) k = J (r + 2) k := by rw [jiJ, va_up_self]; simp [jiC]
      refine x_iload dX2_joinItems_70 rfl ?_
      refine x_aload_n dX2_joinItems_72 rfl ?_
      refine x_geti dX2_joinItems_73 fl_X2_29 cw.k rfl ?_
      refine x_iconst (v := (nI 2)) dX2_joinItems_76 (by decide +kernel) ?_
      refine x_imul dX2_joinItems_77 ?_
      refine x_icmp_ge 119 dX2_joinItems_78 (by decide) (fun c78 => ?_) (fun c78 => ?_)
      · rw [h5, pk_mul] at c78; exact absurd c78 (nI_ge (by omega) (by omega))
      · refine x_aload_n dX2_joinItems_81 rfl ?_
        refine x_getq dX2_joinItems_82 fl_X2_86 vr.k vr.r5 rfl ?_
        refine x_iload dX2_joinItems_85 rfl ?_
        refine x_lald (k) dX2_joinItems_87 vr.k5 vr.n5 rfl (by omega) (by decide) ?_
        refine x_aload_n dX2_joinItems_88 rfl ?_
        refine x_getq dX2_joinItems_89 fl_X2_86 vo.k vo.r5 rfl ?_
        refine x_iload dX2_joinItems_92 rfl ?_
        refine x_lald (k) dX2_joinItems_94 vo.k5 vo.n5 rfl (by omega) (by decide) ?_
        rw [ro, rc]
        refine x_lcmp dX2_joinItems_95 ?_
        refine x_if_ne 113 dX2_joinItems_96 (by decide) (fun c96 => ?_) (fun c96 => ?_)
        · have c96 : ¬ J (r + 2) k = J (o + 2) k := fun z => c96 (cmp_eq.mpr z)
          have hq := ih (k + 1) (by omega)
          rw [show jiJ J r o b nn (k + 1) = jiJ J r o b nn k from by rw [jiJ, jiJ, ← jiC_f c96]] at hq
          refine x_iinc dX2_joinItems_113 rfl rfl (by decide) rfl ?_
          refine x_goto 70 dX2_joinItems_116 (by decide) ?_
          exact x_eql (by show [_, _, _, _, Value.int _, _, _] = _; simp [nI_1]) hq
        · have c96 : J (r + 2) k = J (o + 2) k := cmp_eq.mp c96
          have hq := ih (k + 1) (by omega)
          refine x_aload_n dX2_joinItems_99 rfl ?_
          refine x_getq dX2_joinItems_100 fl_X2_86 vr.k vr.r5 rfl ?_
          refine x_iload dX2_joinItems_103 rfl ?_
          refine x_aload_n dX2_joinItems_105 rfl ?_
          refine x_getq dX2_joinItems_106 fl_X2_86 vb.k vb.r5 rfl ?_
          refine x_iload dX2_joinItems_109 rfl ?_
          refine x_lald (k) dX2_joinItems_111 vb.k5 vb.n5 rfl (by omega) (by decide) ?_
          rw [rb]
          refine x_last (k) dX2_joinItems_112 vr.k5 vr.n5 rfl (by omega) (by decide) ?_
          refine x_eqh (J' := jiJ J r o b nn (k + 1)) rfl ?_ ?_
          · rw [jiJ, jiJ, va_up_self, va_up_up, jiC_t c96]
          refine x_iinc dX2_joinItems_113 rfl rfl (by decide) rfl ?_
          refine x_goto 70 dX2_joinItems_116 (by decide) ?_
          exact x_eql (by show [_, _, _, _, Value.int _, _, _] = _; simp [nI_1]) hq
  have loop1 : ∀ (t k : Nat), t + k = nn → XW l D (fun _ => True) RX2 "joinItems" cX2_joinItems 7 0 0 0 K sz (Zx none K N R I (jiJ J r o b nn (nn * 2)) sz) 3 [.ref x, .ref r, .ref o, .ref b, .int (nI k), .null, .null] [] K N R (I) (jiJ J r o b k 0) sz 0 0 := by
    intro t
    induction t with
    | zero =>
      intro k hk
      refine x_iload dX2_joinItems_3 rfl ?_
      refine x_aload_n dX2_joinItems_5 rfl ?_
      refine x_geti dX2_joinItems_6 fl_X2_29 cw.k rfl ?_
      refine x_icmp_ge 67 dX2_joinItems_9 (by decide) (fun c9 => ?_) (fun c9 => ?_)
      · obtain rfl : nn = k := by omega
        refine x_iconst (v := (0)) dX2_joinItems_67 (by decide +kernel) ?_
        refine x_istore dX2_joinItems_68 (by decide) rfl ?_
        exact x_eql rfl (loop2 (nn * 2) 0 rfl)
      · exact absurd (by rw [h5]; exact nI_le (by omega) (by omega)) c9
    | succ t ih =>
      intro k hk
      have ro : jiJ J r o b k 0 (o + 1) = J (o + 1) := up2_ro (by omega) (by omega)
      have rb : jiJ J r o b k 0 (b + 1) = J (b + 1) := up2_ro (by omega) (by omega)
      have rr : jiJ J r o b k 0 (r + 1) k = J (r + 1) k := by rw [jiJ, up2_ra (by omega)]; simp [jiA]
      refine x_iload dX2_joinItems_3 rfl ?_
      refine x_aload_n dX2_joinItems_5 rfl ?_
      refine x_geti dX2_joinItems_6 fl_X2_29 cw.k rfl ?_
      refine x_icmp_ge 67 dX2_joinItems_9 (by decide) (fun c9 => ?_) (fun c9 => ?_)
      · rw [h5] at c9; exact absurd c9 (nI_ge (by omega) (by omega))
      · refine x_aload_n dX2_joinItems_12 rfl ?_
        refine x_getq dX2_joinItems_13 fl_X2_110 vr.k vr.r4 rfl ?_
        refine x_iload dX2_joinItems_16 rfl ?_
        refine x_lald (k) dX2_joinItems_18 vr.k4 vr.n4 rfl (by omega) (by decide) ?_
        refine x_aload_n dX2_joinItems_19 rfl ?_
        refine x_getq dX2_joinItems_20 fl_X2_110 vo.k vo.r4 rfl ?_
        refine x_iload dX2_joinItems_23 rfl ?_
        refine x_lald (k) dX2_joinItems_25 vo.k4 vo.n4 rfl (by omega) (by decide) ?_
        rw [ro, rr]
        refine x_lxor dX2_joinItems_26 ?_
        refine x_lstore dX2_joinItems_27 (by decide) rfl ?_
        refine x_aload_n dX2_joinItems_29 rfl ?_
        refine x_getq dX2_joinItems_30 fl_X2_110 vr.k vr.r4 rfl ?_
        refine x_iload dX2_joinItems_33 rfl ?_
        refine x_aload_n dX2_joinItems_35 rfl ?_
        refine x_getq dX2_joinItems_36 fl_X2_110 vr.k vr.r4 rfl ?_
        refine x_iload dX2_joinItems_39 rfl ?_
        refine x_lald (k) dX2_joinItems_41 vr.k4 vr.n4 rfl (by omega) (by decide) ?_
        rw [rr]
        refine x_lload dX2_joinItems_42 rfl ?_
        refine x_land dX2_joinItems_44 ?_
        refine x_aload_n dX2_joinItems_45 rfl ?_
        refine x_getq dX2_joinItems_46 fl_X2_110 vb.k vb.r4 rfl ?_
        refine x_iload dX2_joinItems_49 rfl ?_
        refine x_lald (k) dX2_joinItems_51 vb.k4 vb.n4 rfl (by omega) (by decide) ?_
        rw [rb]
        refine x_lload dX2_joinItems_52 rfl ?_
        refine x_ldc2 dX2_joinItems_54 kl_X2_204 ?_
        refine x_lxor dX2_joinItems_57 ?_
        refine x_land dX2_joinItems_58 ?_
        refine x_lor dX2_joinItems_59 ?_
        refine x_last (k) dX2_joinItems_60 vr.k4 vr.n4 rfl (by omega) (by decide) ?_
        refine x_eqh (J' := jiJ J r o b (k + 1) 0) rfl ?_ ?_
        · rw [jiJ, up2_ra (show r + 1 ≠ r + 2 by omega), up2_a (show r + 1 ≠ r + 2 by omega), jiA_step (by rfl), jiJ]
        refine x_iinc dX2_joinItems_61 rfl rfl (by decide) rfl ?_
        refine x_goto 3 dX2_joinItems_64 (by decide) ?_
        refine x_drop 5 ?_
        exact x_eql (by show [_, _, _, _, Value.int _, _, _] = _; simp [nI_1]) (ih (k + 1) (by omega))
  refine XM.of (own := RX2) (nm := "joinItems") (by decide +kernel) rfl rfl (by simp [xla, Value.category]) [.ref x, .ref r, .ref o, .ref b, .null, .null, .null] rfl (Zx.rt rfl) ?_
  refine x_iconst (v := (0)) dX2_joinItems_0 (by decide +kernel) ?_
  refine x_istore dX2_joinItems_1 (by decide) rfl ?_
  refine x_eqh (J' := jiJ J r o b 0 0) rfl ?_ (x_eql rfl (loop1 nn 0 rfl))
  rw [jiJ, jiA_0, jiC_0, va_up_id, va_up_id]
def cjF (X Y W : Int32) (la lb : Bool) : Bool := (Y != X) && ((W != X) && ((W != Y) && (!la && !lb)))
def cjV (X Y W nx : Int32) (la lb : Bool) : Int32 := if Y = X then W else if W = X ∨ W = Y ∨ la = true then Y else if lb = true then W else nx
set_option maxHeartbeats 4000000 in
theorem c_X2_chooseJoinedChunk (l : Launch) (D : va_G) {K N : Nat → Nat} {R : Nat → Nat → Nat} {I : Nat → Nat → Int32} {J : Nat → Nat → Int64} {sz : Nat} {x : Nat} (cw : CW x K N R) {r o a b : Nat} (vr : VW r K N R) (vo : VW o K N R) (va : VW a K N R) (vb : VW b K N R) {nn : Nat} (h5 : I x 5 = nI nn) (hnn : nn ≤ 64) {s k : Nat} (h6 : I x 6 = nI s) (hs0 : 0 < s) (hs : s ≤ 64) (hk : k < 64) (hkn : k * s < nn) : XM l D yX2_chooseJoinedChunk cX2_chooseJoinedChunk 9 (some .int) 2 0 0 [.ref x, .ref r, .ref o, .ref a, .ref b, .int (nI k)] K N R I J sz (Zx (some (.int (cjV (I (o + 3) k) (I (a + 3) k) (I (b + 3) k) (I x 10) (!anyP (akB J r a s k) nn) (!anyP (akB J r b s k) nn)))) K N R (if cjF (I (o + 3) k) (I (a + 3) k) (I (b + 3) k) (!anyP (akB J r a s k) nn) (!anyP (akB J r b s k) nn) = true then va_up I x (va_up (I x) 10 (I x 10 + 1)) else I) J sz) := by
  refine XM.of (own := RX2) (nm := "chooseJoinedChunk") (by decide +kernel) rfl rfl (by simp [xla, Value.category]) [.ref x, .ref r, .ref o, .ref a, .ref b, .int (nI k), .null, .null, .null] rfl (Zx.rt ⟨_, rfl⟩) ?_
  refine x_aload_n dX2_chooseJoinedChunk_0 rfl ?_
  refine x_getq dX2_chooseJoinedChunk_1 fl_X2_90 vo.k vo.r6 rfl ?_
  refine x_iload dX2_chooseJoinedChunk_4 rfl ?_
  refine x_iald (k) dX2_chooseJoinedChunk_6 vo.k6 vo.n6 rfl (by omega) (by decide) ?_
  refine x_istore dX2_chooseJoinedChunk_7 (by decide) rfl ?_
  refine x_aload_n dX2_chooseJoinedChunk_9 rfl ?_
  refine x_getq dX2_chooseJoinedChunk_10 fl_X2_90 va.k va.r6 rfl ?_
  refine x_iload dX2_chooseJoinedChunk_13 rfl ?_
  refine x_iald (k) dX2_chooseJoinedChunk_15 va.k6 va.n6 rfl (by omega) (by decide) ?_
  refine x_istore dX2_chooseJoinedChunk_16 (by decide) rfl ?_
  refine x_aload dX2_chooseJoinedChunk_18 rfl ?_
  refine x_getq dX2_chooseJoinedChunk_20 fl_X2_90 vb.k vb.r6 rfl ?_
  refine x_iload dX2_chooseJoinedChunk_23 rfl ?_
  refine x_iald (k) dX2_chooseJoinedChunk_25 vb.k6 vb.n6 rfl (by omega) (by decide) ?_
  refine x_istore dX2_chooseJoinedChunk_26 (by decide) rfl ?_
  refine x_iload dX2_chooseJoinedChunk_28 rfl ?_
  refine x_iload dX2_chooseJoinedChunk_30 rfl ?_
  refine x_icmp_ne 38 dX2_chooseJoinedChunk_32 (by decide) (fun c32 => ?_) (fun c32 => ?_)
  · refine x_iload dX2_chooseJoinedChunk_38 rfl ?_
    refine x_iload dX2_chooseJoinedChunk_40 rfl ?_
    refine x_icmp_eq 63 dX2_chooseJoinedChunk_42 (by decide) (fun c42 => ?_) (fun c42 => ?_)
    · have hF : ¬ cjF (I (o + 3) k) (I (a + 3) k) (I (b + 3) k) (!anyP (akB J r a s k) nn) (!anyP (akB J r b s k) nn) = true := by simp [cjF, c32, c42]
      have hV : cjV (I (o + 3) k) (I (a + 3) k) (I (b + 3) k) (I x 10) (!anyP (akB J r a s k) nn) (!anyP (akB J r b s k) nn) = I (a + 3) k := by simp [cjV, c32, c42]
      refine x_iload dX2_chooseJoinedChunk_63 rfl ?_
      exact x_zi dX2_chooseJoinedChunk_65 ⟨by rw [hV], rfl, rfl, rfl, by rw [if_neg hF], rfl, rfl⟩
    · refine x_iload dX2_chooseJoinedChunk_45 rfl ?_
      refine x_iload dX2_chooseJoinedChunk_47 rfl ?_
      refine x_icmp_eq 63 dX2_chooseJoinedChunk_49 (by decide) (fun c49 => ?_) (fun c49 => ?_)
      · have hF : ¬ cjF (I (o + 3) k) (I (a + 3) k) (I (b + 3) k) (!anyP (akB J r a s k) nn) (!anyP (akB J r b s k) nn) = true := by simp [cjF, c32, c42, c49]
        have hV : cjV (I (o + 3) k) (I (a + 3) k) (I (b + 3) k) (I x 10) (!anyP (akB J r a s k) nn) (!anyP (akB J r b s k) nn) = I (a + 3) k := by simp [cjV, c32, c42, c49]
        refine x_iload dX2_chooseJoinedChunk_63 rfl ?_
        exact x_zi dX2_chooseJoinedChunk_65 ⟨by rw [hV], rfl, rfl, rfl, by rw [if_neg hF], rfl, rfl⟩
      · refine x_aload_n dX2_chooseJoinedChunk_52 rfl ?_
        refine x_aload_n dX2_chooseJoinedChunk_53 rfl ?_
        refine x_aload_n dX2_chooseJoinedChunk_54 rfl ?_
        refine x_iload dX2_chooseJoinedChunk_55 rfl ?_
        refine x_eV (c_X2_isChunkAlike l D cw vr va h5 hnn (s := s) (k := k) h6 hs0 hs hk hkn) dX2_chooseJoinedChunk_57 lk_X2_157 im_X2_isChunkAlike se_X2_isChunkAlike cd_X2_isChunkAlike (by decide) cw.k vcX2 rfl (by decide) rfl (by first | decide | simp [Value.category]) ?_
        refine x_if_eq 66 dX2_chooseJoinedChunk_60 (by decide) (fun c60 => ?_) (fun c60 => ?_)
        · rw [bI_e0] at c60
          have c60 : anyP (akB J r a s k) nn = true := by simpa using c60
          refine x_aload_n dX2_chooseJoinedChunk_66 rfl ?_
          refine x_aload_n dX2_chooseJoinedChunk_67 rfl ?_
          refine x_aload dX2_chooseJoinedChunk_68 rfl ?_
          refine x_iload dX2_chooseJoinedChunk_70 rfl ?_
          refine x_eV (c_X2_isChunkAlike l D cw vr vb h5 hnn (s := s) (k := k) h6 hs0 hs hk hkn) dX2_chooseJoinedChunk_72 lk_X2_157 im_X2_isChunkAlike se_X2_isChunkAlike cd_X2_isChunkAlike (by decide) cw.k vcX2 rfl (by decide) rfl (by first | decide | simp [Value.category]) ?_
          refine x_if_eq 81 dX2_chooseJoinedChunk_75 (by decide) (fun c75 => ?_) (fun c75 => ?_)
          · rw [bI_e0] at c75
            have c75 : anyP (akB J r b s k) nn = true := by simpa using c75
            have hF : cjF (I (o + 3) k) (I (a + 3) k) (I (b + 3) k) (!anyP (akB J r a s k) nn) (!anyP (akB J r b s k) nn) = true := by simp [cjF, c32, c42, c49, c60, c75]
            have hV : cjV (I (o + 3) k) (I (a + 3) k) (I (b + 3) k) (I x 10) (!anyP (akB J r a s k) nn) (!anyP (akB J r b s k) nn) = I x 10 := by simp [cjV, c32, c42, c49, c60, c75]
            refine x_aload_n dX2_chooseJoinedChunk_81 rfl ?_
            refine x_eV (c_X2_nextChunk l D cw) dX2_chooseJoinedChunk_82 lk_X2_98 im_X2_nextChunk se_X2_nextChunk cd_X2_nextChunk (by decide) cw.k vcX2 rfl (by decide) rfl (by first | decide | simp [Value.category]) ?_
            exact x_zi dX2_chooseJoinedChunk_85 ⟨by rw [hV], rfl, rfl, rfl, by rw [if_pos hF], rfl, rfl⟩
          · rw [bI_n0] at c75
            have hF : ¬ cjF (I (o + 3) k) (I (a + 3) k) (I (b + 3) k) (!anyP (akB J r a s k) nn) (!anyP (akB J r b s k) nn) = true := by simp [cjF, c32, c42, c49, c60, c75]
            have hV : cjV (I (o + 3) k) (I (a + 3) k) (I (b + 3) k) (I x 10) (!anyP (akB J r a s k) nn) (!anyP (akB J r b s k) nn) = I (b + 3) k := by simp [cjV, c32, c42, c49, c60, c75]
            refine x_iload dX2_chooseJoinedChunk_78 rfl ?_
            exact x_zi dX2_chooseJoinedChunk_80 ⟨by rw [hV], rfl, rfl, rfl, by rw [if_neg hF], rfl, rfl⟩
        · rw [bI_n0] at c60
          have hF : ¬ cjF (I (o + 3) k) (I (a + 3) k) (I (b + 3) k) (!anyP (akB J r a s k) nn) (!anyP (akB J r b s k) nn) = true := by simp [cjF, c32, c42, c49, c60]
          have hV : cjV (I (o + 3) k) (I (a + 3) k) (I (b + 3) k) (I x 10) (!anyP (akB J r a s k) nn) (!anyP (akB J r b s k) nn) = I (a + 3) k := by simp [cjV, c32, c42, c49, c60]
          refine x_iload dX2_chooseJoinedChunk_63 rfl ?_
          exact x_zi dX2_chooseJoinedChunk_65 ⟨by rw [hV], rfl, rfl, rfl, by rw [if_neg hF], rfl, rfl⟩
  · have c32 : I (a + 3) k = I (o + 3) k := c32
    have hF : ¬ cjF (I (o + 3) k) (I (a + 3) k) (I (b + 3) k) (!anyP (akB J r a s k) nn) (!anyP (akB J r b s k) nn) = true := by simp [cjF, c32]
    have hV : cjV (I (o + 3) k) (I (a + 3) k) (I (b + 3) k) (I x 10) (!anyP (akB J r a s k) nn) (!anyP (akB J r b s k) nn) = I (b + 3) k := by simp [cjV, c32]
    refine x_iload dX2_chooseJoinedChunk_35 rfl ?_
    exact x_zi dX2_chooseJoinedChunk_37 ⟨by rw [hV], rfl, rfl, rfl, by rw [if_neg hF], rfl, rfl⟩
