/-! The reference: copies, changes -/
def cpJ (J : Nat → Nat → Int64) (m fr nv k : Nat) : Nat → Nat → Int64 := va_up (va_up J (m + 1) (va_cpy (J (m + 1)) (J (m + 1)) (64 * fr) (64 * nv) k)) (m + 2) (va_cpy (va_cpy (J (m + 2)) (J (m + 2)) (128 * fr) (128 * nv) k) (va_cpy (J (m + 2)) (J (m + 2)) (128 * fr) (128 * nv) k) (128 * fr + 64) (128 * nv + 64) k)
def cpI (I : Nat → Nat → Int32) (m fr nv k : Nat) : Nat → Nat → Int32 := va_up I (m + 3) (va_cpy (I (m + 3)) (I (m + 3)) (64 * fr) (64 * nv) k)
def cpI2 (I : Nat → Nat → Int32) (m fr nv : Nat) : Nat → Nat → Int32 := va_up (va_up (va_up (cpI I m fr nv 64) (m + 4) (va_up (I (m + 4)) nv (nI fr))) (m + 5) (va_up (I (m + 5)) nv (I m 3))) (m + 6) (va_up (I (m + 6)) nv 0)
theorem cpJ_1 {J : Nat → Nat → Int64} {m fr nv k : Nat} : cpJ J m fr nv k (m + 1) = va_cpy (J (m + 1)) (J (m + 1)) (64 * fr) (64 * nv) k := by simp [cpJ, va_up]
theorem cpJ_2 {J : Nat → Nat → Int64} {m fr nv k : Nat} : cpJ J m fr nv k (m + 2) = va_cpy (va_cpy (J (m + 2)) (J (m + 2)) (128 * fr) (128 * nv) k) (va_cpy (J (m + 2)) (J (m + 2)) (128 * fr) (128 * nv) k) (128 * fr + 64) (128 * nv + 64) k := by simp [cpJ, va_up]
theorem cpI_m {I : Nat → Nat → Int32} {m fr nv k : Nat} : cpI I m fr nv k m = I m := by simp [cpI, va_up]
theorem cpI_3 {I : Nat → Nat → Int32} {m fr nv k : Nat} : cpI I m fr nv k (m + 3) = va_cpy (I (m + 3)) (I (m + 3)) (64 * fr) (64 * nv) k := by simp [cpI, va_up]
theorem cpI_0 {I : Nat → Nat → Int32} {m fr nv : Nat} : cpI I m fr nv 0 = I := by rw [cpI, blk_0, va_up_id]
theorem cpJ_0 {J : Nat → Nat → Int64} {m fr nv : Nat} : cpJ J m fr nv 0 = J := by
  rw [cpJ, blk_0, blk_0, blk_0, va_up_id, va_up_id]
theorem va_up_up {α : Type} (f : Nat → α) (k : Nat) (v w : α) : va_up (va_up f k v) k w = va_up f k w := by
  funext j
  by_cases h : j = k
  · subst h; rw [va_up_self, va_up_self]
  · rw [va_up_ne _ _ h, va_up_ne _ _ h, va_up_ne _ _ h]
theorem va_up_comm {α : Type} (f : Nat → α) {k j : Nat} (h : k ≠ j) (v w : α) : va_up (va_up f k v) j w = va_up (va_up f j w) k v := by
  funext i
  by_cases h1 : i = j
  · subst h1; rw [va_up_self, va_up_ne _ _ (Ne.symm h), va_up_self]
  · rw [va_up_ne _ _ h1]
    by_cases h2 : i = k
    · subst h2; rw [va_up_self, va_up_self]
    · rw [va_up_ne _ _ h2, va_up_ne _ _ h2, va_up_ne _ _ h1]
theorem cpI_step {I : Nat → Nat → Int32} {m fr nv k : Nat} : va_up (cpI I m fr nv k) (m + 3) (va_up (cpI I m fr nv k (m + 3)) (64 * nv + k) (I (m + 3) (64 * fr + k))) = cpI I m fr nv (k + 1) := by
  rw [cpI_3, cpI, va_up_up, blk_step]; rfl
theorem cpJ_step {J : Nat → Nat → Int64} {m fr nv k : Nat} {F : Nat → Int64} (hk : k < 64) (hf : fr < nv) (hF : F = va_up (va_up (cpJ J m fr nv k (m + 2)) (128 * nv + k) (J (m + 2) (128 * fr + k))) (128 * nv + 64 + k) (J (m + 2) (128 * fr + 64 + k))) : va_up (va_up (cpJ J m fr nv k) (m + 1) (va_up (cpJ J m fr nv k (m + 1)) (64 * nv + k) (J (m + 1) (64 * fr + k)))) (m + 2) F = cpJ J m fr nv (k + 1) := by
  have e1 : F = va_cpy (va_cpy (J (m + 2)) (J (m + 2)) (128 * fr) (128 * nv) (k + 1)) (va_cpy (J (m + 2)) (J (m + 2)) (128 * fr) (128 * nv) (k + 1)) (128 * fr + 64) (128 * nv + 64) (k + 1) := by
    rw [hF, cpJ_2, ← blk_step (f := va_cpy (J (m + 2)) (J (m + 2)) (128 * fr) (128 * nv) (k + 1)), ← blk_step (f := J (m + 2))]
    have e2 : (va_up (va_cpy (J (m + 2)) (J (m + 2)) (128 * fr) (128 * nv) k) (128 * nv + k) (J (m + 2) (128 * fr + k))) (128 * fr + 64 + k) = J (m + 2) (128 * fr + 64 + k) := by
      rw [va_up_ne _ _ (by omega), pk_cpy_out (by omega)]
    rw [e2]
    congr 1
    funext j
    by_cases h1 : j = 128 * nv + k
    · subst h1
      rw [va_up_self, pk_cpy_out (by omega), va_up_self]
    · rw [va_up_ne _ _ h1]
      by_cases h2 : 128 * nv + 64 ≤ j ∧ j < 128 * nv + 64 + k
      · rw [pk_cpy_in h2.1 h2.2, pk_cpy_in h2.1 h2.2, va_up_ne _ _ (by omega)]
      · have hout : j < 128 * nv + 64 ∨ 128 * nv + 64 + k ≤ j := by omega
        rw [pk_cpy_out (dp := 128 * nv + 64) hout, pk_cpy_out (dp := 128 * nv + 64) hout, va_up_ne _ _ h1]
  rw [e1, cpJ_1, cpJ, va_up_comm _ (show m + 2 ≠ m + 1 by omega), va_up_up, va_up_up, blk_step]
  rfl
set_option maxHeartbeats 4000000 in
theorem c_X3_copies (l : Launch) (D : va_G) {K N : Nat → Nat} {R : Nat → Nat → Nat} {I : Nat → Nat → Int32} {J : Nat → Nat → Int64} {sz : Nat} {m : Nat} (mw : MW m K N R) {fr nv : Nat} (h4 : I m 4 = nI nv) (hf : fr < nv) (hv : nv < 60) : XM l D yX3_copies cX3_copies 3 none 0 0 0 [.ref m, .int (nI fr)] K N R I J sz (Zx none K N R (cpI2 I m fr nv) (cpJ J m fr nv 64) sz) := by
  have hnn : nv < 60 := hv
  have loop : ∀ (t k : Nat), t + k = 64 → XW l D (fun _ => True) RX3 "copies" cX3_copies 3 0 0 0 K sz (Zx none K N R (cpI2 I m fr nv) (cpJ J m fr nv 64) sz) 2 [.ref m, .int (nI fr), .int (nI k)] [] K N R (cpI I m fr nv k) (cpJ J m fr nv k) sz 0 0 := by
    intro t
    induction t with
    | zero =>
      intro k hk
      refine x_iload_n dX3_copies_2 rfl ?_
      refine x_bipush (v := (nI 64)) dX3_copies_3 (by decide +kernel) ?_
      refine x_icmp_ge 124 dX3_copies_5 (by decide) (fun c5 => ?_) (fun c5 => ?_)
      · obtain rfl : k = 64 := by omega
        refine x_aload_n dX3_copies_124 rfl ?_
        refine x_getq dX3_copies_125 fl_X3_20 mw.k mw.r9 rfl ?_
        refine x_aload_n dX3_copies_128 rfl ?_
        refine x_geti dX3_copies_129 fl_X3_51 mw.k rfl ?_
        refine x_iload_n dX3_copies_132 rfl ?_
        refine x_iast (nv) dX3_copies_133 mw.k9 mw.n9 (by rw [cpI_m, h4]) (by omega) (by decide) ?_
        refine x_aload_n dX3_copies_134 rfl ?_
        refine x_getq dX3_copies_135 fl_X3_23 mw.k mw.r10 rfl ?_
        refine x_aload_n dX3_copies_138 rfl ?_
        refine x_geti dX3_copies_139 fl_X3_51 mw.k rfl ?_
        refine x_aload_n dX3_copies_142 rfl ?_
        refine x_geti dX3_copies_143 fl_X3_69 mw.k rfl ?_
        refine x_iast (nv) dX3_copies_146 mw.k10 mw.n10 (by simp [va_up, cpI_m, h4]) (by omega) (by decide) ?_
        refine x_aload_n dX3_copies_147 rfl ?_
        refine x_getq dX3_copies_148 fl_X3_26 mw.k mw.r11 rfl ?_
        refine x_aload_n dX3_copies_151 rfl ?_
        refine x_geti dX3_copies_152 fl_X3_51 mw.k rfl ?_
        refine x_iconst (v := (0)) dX3_copies_155 (by decide +kernel) ?_
        refine x_zast (nv) dX3_copies_156 mw.k11 mw.n11 (by simp [va_up, cpI_m, h4]) (by omega) (by decide) (by decide) ?_
        exact x_zn dX3_copies_157 ⟨rfl, rfl, rfl, rfl, by simp [cpI2, cpI, va_up], rfl, rfl⟩
      · exact absurd (nI_le (by omega) (by omega)) c5
    | succ t ih =>
      intro k hk
      refine x_iload_n dX3_copies_2 rfl ?_
      refine x_bipush (v := (nI 64)) dX3_copies_3 (by decide +kernel) ?_
      refine x_icmp_ge 124 dX3_copies_5 (by decide) (fun c5 => ?_) (fun c5 => ?_)
      · exact absurd c5 (nI_ge (by omega) (by omega))
      · refine x_aload_n dX3_copies_8 rfl ?_
        refine x_getq dX3_copies_9 fl_X3_7 mw.k mw.r6 rfl ?_
        refine x_bipush (v := (nI 64)) dX3_copies_12 (by decide +kernel) ?_
        refine x_aload_n dX3_copies_14 rfl ?_
        refine x_geti dX3_copies_15 fl_X3_51 mw.k rfl ?_
        refine x_imul dX3_copies_18 ?_
        refine x_iload_n dX3_copies_19 rfl ?_
        refine x_iadd dX3_copies_20 ?_
        refine x_aload_n dX3_copies_21 rfl ?_
        refine x_getq dX3_copies_22 fl_X3_7 mw.k mw.r6 rfl ?_
        refine x_bipush (v := (nI 64)) dX3_copies_25 (by decide +kernel) ?_
        refine x_iload_n dX3_copies_27 rfl ?_
        refine x_imul dX3_copies_28 ?_
        refine x_iload_n dX3_copies_29 rfl ?_
        refine x_iadd dX3_copies_30 ?_
        refine x_lald (64 * fr + k) dX3_copies_31 mw.k6 mw.n6 (by rw [pk_mul, nI_add]) (by omega) (by decide) ?_
        refine x_last (64 * nv + k) dX3_copies_32 mw.k6 mw.n6 (by rw [cpI_m, h4, pk_mul, nI_add]) (by omega) (by decide) ?_
        rw [show cpJ J m fr nv k (m + 1) (64 * fr + k) = J (m + 1) (64 * fr + k) by rw [cpJ_1, pk_cpy_out (by omega)]]
        refine x_aload_n dX3_copies_33 rfl ?_
        refine x_getq dX3_copies_34 fl_X3_16 mw.k mw.r8 rfl ?_
        refine x_bipush (v := (nI 64)) dX3_copies_37 (by decide +kernel) ?_
        refine x_aload_n dX3_copies_39 rfl ?_
        refine x_geti dX3_copies_40 fl_X3_51 mw.k rfl ?_
        refine x_imul dX3_copies_43 ?_
        refine x_iload_n dX3_copies_44 rfl ?_
        refine x_iadd dX3_copies_45 ?_
        refine x_aload_n dX3_copies_46 rfl ?_
        refine x_getq dX3_copies_47 fl_X3_16 mw.k mw.r8 rfl ?_
        refine x_bipush (v := (nI 64)) dX3_copies_50 (by decide +kernel) ?_
        refine x_iload_n dX3_copies_52 rfl ?_
        refine x_imul dX3_copies_53 ?_
        refine x_iload_n dX3_copies_54 rfl ?_
        refine x_iadd dX3_copies_55 ?_
        refine x_iald (64 * fr + k) dX3_copies_56 mw.k8 mw.n8 (by rw [pk_mul, nI_add]) (by omega) (by decide) ?_
        refine x_iast (64 * nv + k) dX3_copies_57 mw.k8 mw.n8 (by rw [cpI_m, h4, pk_mul, nI_add]) (by omega) (by decide) ?_
        rw [show cpI I m fr nv k (m + 3) (64 * fr + k) = I (m + 3) (64 * fr + k) by rw [cpI_3, pk_cpy_out (by omega)], cpI_step]
        refine x_aload_n dX3_copies_58 rfl ?_
        refine x_getq dX3_copies_59 fl_X3_13 mw.k mw.r7 rfl ?_
        refine x_sipush (v := (nI 128)) dX3_copies_62 (by decide +kernel) ?_
        refine x_aload_n dX3_copies_65 rfl ?_
        refine x_geti dX3_copies_66 fl_X3_51 mw.k rfl ?_
        refine x_imul dX3_copies_69 ?_
        refine x_iload_n dX3_copies_70 rfl ?_
        refine x_iadd dX3_copies_71 ?_
        refine x_aload_n dX3_copies_72 rfl ?_
        refine x_getq dX3_copies_73 fl_X3_13 mw.k mw.r7 rfl ?_
        refine x_sipush (v := (nI 128)) dX3_copies_76 (by decide +kernel) ?_
        refine x_iload_n dX3_copies_79 rfl ?_
        refine x_imul dX3_copies_80 ?_
        refine x_iload_n dX3_copies_81 rfl ?_
        refine x_iadd dX3_copies_82 ?_
        refine x_lald (128 * fr + k) dX3_copies_83 mw.k7 mw.n7 (by rw [pk_mul, nI_add]) (by omega) (by decide) ?_
        refine x_last (128 * nv + k) dX3_copies_84 mw.k7 mw.n7 (by rw [cpI_m, h4, pk_mul, nI_add]) (by omega) (by decide) ?_
        rw [va_up_ne _ _ (show m + 2 ≠ m + 1 by omega), show cpJ J m fr nv k (m + 2) (128 * fr + k) = J (m + 2) (128 * fr + k) by rw [cpJ_2, pk_cpy_out (by omega), pk_cpy_out (by omega)]]
        refine x_aload_n dX3_copies_85 rfl ?_
        refine x_getq dX3_copies_86 fl_X3_13 mw.k mw.r7 rfl ?_
        refine x_sipush (v := (nI 128)) dX3_copies_89 (by decide +kernel) ?_
        refine x_aload_n dX3_copies_92 rfl ?_
        refine x_geti dX3_copies_93 fl_X3_51 mw.k rfl ?_
        refine x_imul dX3_copies_96 ?_
        refine x_bipush (v := (nI 64)) dX3_copies_97 (by decide +kernel) ?_
        refine x_iadd dX3_copies_99 ?_
        refine x_iload_n dX3_copies_100 rfl ?_
        refine x_iadd dX3_copies_101 ?_
        refine x_aload_n dX3_copies_102 rfl ?_
        refine x_getq dX3_copies_103 fl_X3_13 mw.k mw.r7 rfl ?_
        refine x_sipush (v := (nI 128)) dX3_copies_106 (by decide +kernel) ?_
        refine x_iload_n dX3_copies_109 rfl ?_
        refine x_imul dX3_copies_110 ?_
        refine x_bipush (v := (nI 64)) dX3_copies_111 (by decide +kernel) ?_
        refine x_iadd dX3_copies_113 ?_
        refine x_iload_n dX3_copies_114 rfl ?_
        refine x_iadd dX3_copies_115 ?_
        refine x_lald (128 * fr + 64 + k) dX3_copies_116 mw.k7 mw.n7 (by rw [pk_mul, nI_add, nI_add]) (by omega) (by decide) ?_
        refine x_last (128 * nv + 64 + k) dX3_copies_117 mw.k7 mw.n7 (by rw [cpI_m, h4, pk_mul, nI_add, nI_add]) (by omega) (by decide) ?_
        rw [va_up_up, va_up_self, show (va_up (cpJ J m fr nv k (m + 2)) (128 * nv + k) (J (m + 2) (128 * fr + k))) (128 * fr + 64 + k) = J (m + 2) (128 * fr + 64 + k) by rw [va_up_ne _ _ (by omega), cpJ_2, pk_cpy_out (by omega), pk_cpy_out (by omega)], cpJ_step (by omega) hf rfl]
        refine x_iinc dX3_copies_118 rfl rfl (by decide) rfl ?_
        refine x_goto 2 dX3_copies_121 (by decide) ?_
        exact x_eql (by simp [nI_1]) (ih (k + 1) (by omega))
  refine XM.of (own := RX3) (nm := "copies") (by decide +kernel) rfl rfl (by simp [xla, Value.category]) [.ref m, .int (nI fr), .null] rfl (Zx.rt rfl) ?_
  refine x_iconst (v := (0)) dX3_copies_0 (by decide +kernel) ?_
  refine x_istore_n dX3_copies_1 (by decide) rfl ?_
  exact x_eqh cpI_0.symm cpJ_0.symm (loop 64 0 rfl)
