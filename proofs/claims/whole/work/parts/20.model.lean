/-! The reference: graph, reach, its making -/
theorem in64 {q : Int32} (h : ¬ q < 1 ∧ ¬ nI 64 < q) : ∃ j, 1 ≤ j ∧ j ≤ 64 ∧ q = nI j := by
  have h0 : ¬ q < 0 := fun z => h.1 (Int32.lt_trans z (by decide))
  obtain ⟨j, hj, rfl⟩ := nI_of h0
  refine ⟨j, ?_, ?_, rfl⟩
  · rcases Nat.lt_or_ge 0 j with z | z
    · exact z
    · obtain rfl : j = 0 := by omega
      exact absurd (by decide +kernel) h.1
  · rcases Nat.lt_or_ge 64 j with z | z
    · exact absurd (nI_lt z hj) h.2
    · exact z
def nch (a b : Nat) : Nat := (a + b - 1) / b
theorem nch_e {a b : Nat} (ha : 1 ≤ a) (hb : 1 ≤ b) (ha2 : a ≤ 64) (hb2 : b ≤ 64) : (nI a + nI b - 1) / nI b = nI (nch a b) := by
  rw [nI_add, show a + b = (a + b - 1) + 1 by omega, nI_pred, pk_div (by omega) (by omega) (by omega)]
  rw [nch]
def gF3 (F : Nat → Int32) (a b : Nat) : Nat → Int32 := va_up (va_up (va_up F 0 (nI a)) 1 (nI b)) 2 (nI (nch a b))
def glI (I : Nat → Nat → Int32) (m a b k : Nat) : Nat → Nat → Int32 := va_up (va_up I m (gF3 (I m) a b)) (m + 3) (fun i => if i < k then nI i else I (m + 3) i)
def glJ (J : Nat → Nat → Int64) (m k : Nat) : Nat → Nat → Int64 := va_up (va_up J (m + 1) (fun i => if i < k then 0 else J (m + 1) i)) (m + 2) (fun i => if i < k ∨ (64 ≤ i ∧ i < 64 + k) then 0 else J (m + 2) i)
def grI (I : Nat → Nat → Int32) (m a b : Nat) : Nat → Nat → Int32 := va_up (va_up (va_up (va_up (va_up I m (va_up (va_up (va_up (va_up (va_up (gF3 (I m) a b) 4 1) 5 (nI (nch a b))) 12 0) 13 0) 18 0)) (m + 3) (fun i => if i < 64 then nI i else I (m + 3) i)) (m + 4) (va_up (I (m + 4)) 0 (-99999999))) (m + 5) (va_up (I (m + 5)) 0 (I m 3))) (m + 6) (va_up (I (m + 6)) 0 0)
theorem glI_m {I : Nat → Nat → Int32} {m a b k : Nat} : glI I m a b k m = gF3 (I m) a b := by simp [glI, va_up]
theorem glI_step {I : Nat → Nat → Int32} {m a b k : Nat} : va_up (glI I m a b k) (m + 3) (va_up (glI I m a b k (m + 3)) k (nI k)) = glI I m a b (k + 1) := by
  rw [show glI I m a b k (m + 3) = fun i => if i < k then nI i else I (m + 3) i from by simp [glI, va_up]]
  unfold glI
  rw [va_up_up]
  congr 1
  funext i
  by_cases h : i = k
  · subst h; rw [va_up_self, if_pos (by omega)]
  · rw [va_up_ne _ _ h]
    by_cases h2 : i < k
    · rw [if_pos h2, if_pos (by omega)]
    · rw [if_neg h2, if_neg (by omega)]
theorem glJ_step {J : Nat → Nat → Int64} {m k : Nat} {F : Nat → Int64} (hk : k < 64) (hF : F = va_up (va_up (glJ J m k (m + 2)) k 0) (64 + k) 0) : va_up (va_up (glJ J m k) (m + 1) (va_up (glJ J m k (m + 1)) k 0)) (m + 2) F = glJ J m (k + 1) := by
  subst hF
  have e1 : glJ J m k (m + 1) = fun i => if i < k then 0 else J (m + 1) i := by simp [glJ, va_up]
  have e2 : glJ J m k (m + 2) = fun i => if i < k ∨ (64 ≤ i ∧ i < 64 + k) then 0 else J (m + 2) i := by simp [glJ, va_up]
  funext r
  by_cases h1 : r = m + 1
  · subst h1
    rw [va_up_ne _ _ (by omega), va_up_self, e1, show glJ J m (k + 1) (m + 1) = fun i => if i < k + 1 then 0 else J (m + 1) i from by simp [glJ, va_up]]
    funext i
    by_cases h : i = k
    · subst h; rw [va_up_self, if_pos (by omega)]
    · rw [va_up_ne _ _ h]
      by_cases h2 : i < k
      · rw [if_pos h2, if_pos (by omega)]
      · rw [if_neg h2, if_neg (by omega)]
  · by_cases h2 : r = m + 2
    · subst h2
      rw [va_up_self, e2, show glJ J m (k + 1) (m + 2) = fun i => if i < k + 1 ∨ (64 ≤ i ∧ i < 64 + (k + 1)) then 0 else J (m + 2) i from by simp [glJ, va_up]]
      funext i
      by_cases h : i = 64 + k
      · subst h; rw [va_up_self, if_pos (by omega)]
      · rw [va_up_ne _ _ h]
        by_cases h3 : i = k
        · subst h3; rw [va_up_self, if_pos (by omega)]
        · rw [va_up_ne _ _ h3]
          by_cases h4 : i < k ∨ (64 ≤ i ∧ i < 64 + k)
          · rw [if_pos h4, if_pos (by omega)]
          · rw [if_neg h4, if_neg (by omega)]
    · simp [glJ, va_up, h1, h2]
theorem glJ_0 {J : Nat → Nat → Int64} {m : Nat} : glJ J m 0 = J := by
  unfold glJ
  rw [show (fun i => if i < 0 then 0 else J (m + 1) i) = J (m + 1) from by funext i; simp, show (fun i => if i < 0 ∨ (64 ≤ i ∧ i < 64 + 0) then 0 else J (m + 2) i) = J (m + 2) from by funext i; rw [if_neg (by omega)], va_up_id, va_up_id]
theorem glI_0 {I : Nat → Nat → Int32} {m a b : Nat} : glI I m a b 0 = va_up I m (gF3 (I m) a b) := by
  unfold glI
  rw [show (fun i => if i < 0 then nI i else I (m + 3) i) = va_up I m (gF3 (I m) a b) (m + 3) from by funext i; simp [va_up], va_up_id]
theorem grI_e {I : Nat → Nat → Int32} {m a b : Nat} {A : Nat → Nat → Int32} (hA : A = va_up (va_up (va_up (glI I m a b 64) (m + 4) (va_up (I (m + 4)) 0 (-99999999))) (m + 5) (va_up (I (m + 5)) 0 (I m 3))) (m + 6) (va_up (I (m + 6)) 0 0)) :
    va_up A m (va_up (va_up (va_up (va_up (va_up (gF3 (I m) a b) 4 1) 5 (nI (nch a b))) 12 0) 13 0) 18 0) = grI I m a b := by
  subst hA
  funext r
  by_cases h0 : r = m
  · subst h0; simp [grI, va_up]
  · by_cases h3 : r = m + 3
    · subst h3; simp [grI, glI, va_up]
    · by_cases h4 : r = m + 4
      · subst h4; simp [grI, glI, va_up]
      · by_cases h5 : r = m + 5
        · subst h5; simp [grI, glI, va_up]
        · by_cases h6 : r = m + 6
          · subst h6; simp [grI, glI, va_up]
          · simp [grI, glI, va_up, h0, h3, h4, h5, h6]
theorem clz0 {j : Nat} (h : j ≤ 64) : (nI j).toNatClampNeg = j := nI_clamp (by omega)
set_option maxHeartbeats 4000000 in
theorem c_X3_graph (l : Launch) (D : va_G) {K N : Nat → Nat} {R : Nat → Nat → Nat} {I : Nat → Nat → Int32} {J : Nat → Nat → Int64} {sz : Nat} {m : Nat} (mw : MW m K N R) (qn qs : Int32) : XM l D yX3_graph cX3_graph 4 (some .int) 1 0 0 [.ref m, .int qn, .int qs] K N R I J sz (Zx (some (.int (if (¬ qn < 1 ∧ ¬ nI 64 < qn) ∧ (¬ qs < 1 ∧ ¬ nI 64 < qs) then nI (nch qn.toNatClampNeg qs.toNatClampNeg) else -1))) K N R (if (¬ qn < 1 ∧ ¬ nI 64 < qn) ∧ (¬ qs < 1 ∧ ¬ nI 64 < qs) then grI I m qn.toNatClampNeg qs.toNatClampNeg else I) (if (¬ qn < 1 ∧ ¬ nI 64 < qn) ∧ (¬ qs < 1 ∧ ¬ nI 64 < qs) then glJ J m 64 else J) sz) := by
  refine XM.of (own := RX3) (nm := "graph") (by decide +kernel) rfl rfl (by simp [xla, Value.category]) [.ref m, .int qn, .int qs, .null] rfl (Zx.rt ⟨_, rfl⟩) ?_
  refine x_iload_n dX3_graph_0 rfl ?_
  refine x_iconst (v := (1)) dX3_graph_1 (by decide +kernel) ?_
  refine x_bipush (v := (nI 64)) dX3_graph_2 (by decide +kernel) ?_
  refine x_eS (c_X3_isIn l D _ _ _) dX3_graph_4 lk_X3_55 st_X3_isIn cd_X3_isIn rfl (by decide) rfl (by first | decide | simp [Value.category]) ?_
  refine x_if_eq 20 dX3_graph_7 (by decide) (fun c7 => ?_) (fun c7 => ?_)
  · rw [bI_e0] at c7
    refine x_iconst (v := (-1)) dX3_graph_20 (by decide +kernel) ?_
    exact x_zi dX3_graph_21 ⟨by rw [if_neg (by rintro ⟨z1, z2⟩; first | exact c7 z1 | exact c17 z2)], rfl, rfl, rfl, by rw [if_neg (by rintro ⟨z1, z2⟩; first | exact c7 z1 | exact c17 z2)], by rw [if_neg (by rintro ⟨z1, z2⟩; first | exact c7 z1 | exact c17 z2)], rfl⟩
  · rw [bI_n0] at c7
    obtain ⟨aj, ha1, ha2, rfl⟩ := in64 c7
    refine x_iload_n dX3_graph_10 rfl ?_
    refine x_iconst (v := (1)) dX3_graph_11 (by decide +kernel) ?_
    refine x_bipush (v := (nI 64)) dX3_graph_12 (by decide +kernel) ?_
    refine x_eS (c_X3_isIn l D _ _ _) dX3_graph_14 lk_X3_55 st_X3_isIn cd_X3_isIn rfl (by decide) rfl (by first | decide | simp [Value.category]) ?_
    refine x_if_ne 22 dX3_graph_17 (by decide) (fun c17 => ?_) (fun c17 => ?_)
    · rw [bI_n0] at c17
      obtain ⟨bj, hb1, hb2, rfl⟩ := in64 c17
      have hG : (¬ nI aj < 1 ∧ ¬ nI 64 < nI aj) ∧ (¬ nI bj < 1 ∧ ¬ nI 64 < nI bj) := ⟨c7, c17⟩
      have loop : ∀ (t k : Nat), t + k = 64 → XW l D (fun _ => True) RX3 "graph" cX3_graph 4 1 0 0 K sz (Zx (some (.int (if (¬ (nI aj) < 1 ∧ ¬ nI 64 < (nI aj)) ∧ (¬ (nI bj) < 1 ∧ ¬ nI 64 < (nI bj)) then nI (nch (nI aj).toNatClampNeg (nI bj).toNatClampNeg) else -1))) K N R (if (¬ (nI aj) < 1 ∧ ¬ nI 64 < (nI aj)) ∧ (¬ (nI bj) < 1 ∧ ¬ nI 64 < (nI bj)) then grI I m (nI aj).toNatClampNeg (nI bj).toNatClampNeg else I) (if (¬ (nI aj) < 1 ∧ ¬ nI 64 < (nI aj)) ∧ (¬ (nI bj) < 1 ∧ ¬ nI 64 < (nI bj)) then glJ J m 64 else J) sz) 45 [.ref m, .int (nI aj), .int (nI bj), .int (nI k)] [] K N R (glI I m aj bj k) (glJ J m k) sz 0 0 := by
        intro t
        induction t with
        | zero =>
          intro k hk
          refine x_iload_n dX3_graph_45 rfl ?_
          refine x_bipush (v := (nI 64)) dX3_graph_46 (by decide +kernel) ?_
          refine x_icmp_ge 88 dX3_graph_48 (by decide) (fun c48 => ?_) (fun c48 => ?_)
          · obtain rfl : k = 64 := by omega
            refine x_aload_n dX3_graph_88 rfl ?_
            refine x_getq dX3_graph_89 fl_X3_20 mw.k mw.r9 rfl ?_
            refine x_iconst (v := (0)) dX3_graph_92 (by decide +kernel) ?_
            refine x_ldc dX3_graph_93 ki_X3_68 ?_
            refine x_iast (0) dX3_graph_95 mw.k9 mw.n9 (by decide +kernel) (by omega) (by decide) ?_
            rw [show glI I m aj bj 64 (m + 4) = I (m + 4) from by simp [glI, va_up]]
            refine x_aload_n dX3_graph_96 rfl ?_
            refine x_getq dX3_graph_97 fl_X3_23 mw.k mw.r10 rfl ?_
            refine x_iconst (v := (0)) dX3_graph_100 (by decide +kernel) ?_
            refine x_aload_n dX3_graph_101 rfl ?_
            refine x_geti dX3_graph_102 fl_X3_69 mw.k rfl ?_
            refine x_iast (0) dX3_graph_105 mw.k10 mw.n10 (by decide +kernel) (by omega) (by decide) ?_
            rw [va_up_ne _ _ (show m ≠ m + 4 by omega), va_up_ne _ _ (show m + 5 ≠ m + 4 by omega), glI_m, show glI I m aj bj 64 (m + 5) = I (m + 5) from by simp [glI, va_up], show gF3 (I m) aj bj 3 = I m 3 from by simp [gF3, va_up]]
            refine x_aload_n dX3_graph_106 rfl ?_
            refine x_getq dX3_graph_107 fl_X3_26 mw.k mw.r11 rfl ?_
            refine x_iconst (v := (0)) dX3_graph_110 (by decide +kernel) ?_
            refine x_iconst (v := (0)) dX3_graph_111 (by decide +kernel) ?_
            refine x_zast (0) dX3_graph_112 mw.k11 mw.n11 (by decide +kernel) (by omega) (by decide) (by decide) ?_
            rw [va_up_ne _ _ (show m + 6 ≠ m + 5 by omega), va_up_ne _ _ (show m + 6 ≠ m + 4 by omega), show glI I m aj bj 64 (m + 6) = I (m + 6) from by simp [glI, va_up]]
            obtain ⟨A, hA⟩ : ∃ A, A = va_up (va_up (va_up (glI I m aj bj 64) (m + 4) (va_up (I (m + 4)) 0 (-99999999))) (m + 5) (va_up (I (m + 5)) 0 (I m 3))) (m + 6) (va_up (I (m + 6)) 0 0) := ⟨_, rfl⟩
            rw [← hA]
            have hAm : A m = gF3 (I m) aj bj := by rw [hA]; simp [glI, va_up]
            refine x_aload_n dX3_graph_113 rfl ?_
            refine x_iconst (v := (1)) dX3_graph_114 (by decide +kernel) ?_
            refine x_puti dX3_graph_115 fl_X3_51 mw.k rfl (Or.inl rfl) ?_
            rw [hAm]
            refine x_aload_n dX3_graph_118 rfl ?_
            refine x_aload_n dX3_graph_119 rfl ?_
            refine x_geti dX3_graph_120 fl_X3_65 mw.k rfl ?_
            refine x_puti dX3_graph_123 fl_X3_72 mw.k rfl (Or.inl rfl) ?_
            rw [va_up_up, va_up_self, show va_up (gF3 (I m) aj bj) 4 1 2 = nI (nch aj bj) from by simp [gF3, va_up]]
            refine x_aload_n dX3_graph_126 rfl ?_
            refine x_iconst (v := (0)) dX3_graph_127 (by decide +kernel) ?_
            refine x_puti dX3_graph_128 fl_X3_75 mw.k rfl (Or.inr ⟨rfl, by decide⟩) ?_
            rw [va_up_up, va_up_self]
            refine x_aload_n dX3_graph_131 rfl ?_
            refine x_iconst (v := (0)) dX3_graph_132 (by decide +kernel) ?_
            refine x_puti dX3_graph_133 fl_X3_79 mw.k rfl (Or.inl rfl) ?_
            rw [va_up_up, va_up_self]
            refine x_aload_n dX3_graph_136 rfl ?_
            refine x_iconst (v := (0)) dX3_graph_137 (by decide +kernel) ?_
            refine x_puti dX3_graph_138 fl_X3_82 mw.k rfl (Or.inl rfl) ?_
            rw [va_up_up, va_up_self]
            refine x_eqh (grI_e hA) rfl ?_
            refine x_aload_n dX3_graph_141 rfl ?_
            refine x_geti dX3_graph_142 fl_X3_65 mw.k rfl ?_
            exact x_zi dX3_graph_145 ⟨by rw [if_pos hG, clz0 (show aj ≤ 64 by omega), clz0 (show bj ≤ 64 by omega)]; simp [grI, gF3, va_up], rfl, rfl, rfl, by rw [if_pos hG, clz0 (show aj ≤ 64 by omega), clz0 (show bj ≤ 64 by omega)], by rw [if_pos hG], rfl⟩
          · exact absurd (nI_le (by omega) (by omega)) c48
        | succ t ih =>
          intro k hk
          refine x_iload_n dX3_graph_45 rfl ?_
          refine x_bipush (v := (nI 64)) dX3_graph_46 (by decide +kernel) ?_
          refine x_icmp_ge 88 dX3_graph_48 (by decide) (fun c48 => ?_) (fun c48 => ?_)
          · exact absurd c48 (nI_ge (by omega) (by omega))
          · refine x_aload_n dX3_graph_51 rfl ?_
            refine x_getq dX3_graph_52 fl_X3_7 mw.k mw.r6 rfl ?_
            refine x_iload_n dX3_graph_55 rfl ?_
            refine x_lconst (v := 0) dX3_graph_56 (by decide +kernel) ?_
            refine x_last (k) dX3_graph_57 mw.k6 mw.n6 rfl (by omega) (by decide) ?_
            refine x_aload_n dX3_graph_58 rfl ?_
            refine x_getq dX3_graph_59 fl_X3_13 mw.k mw.r7 rfl ?_
            refine x_iload_n dX3_graph_62 rfl ?_
            refine x_lconst (v := 0) dX3_graph_63 (by decide +kernel) ?_
            refine x_last (k) dX3_graph_64 mw.k7 mw.n7 rfl (by omega) (by decide) ?_
            refine x_aload_n dX3_graph_65 rfl ?_
            refine x_getq dX3_graph_66 fl_X3_13 mw.k mw.r7 rfl ?_
            refine x_bipush (v := (nI 64)) dX3_graph_69 (by decide +kernel) ?_
            refine x_iload_n dX3_graph_71 rfl ?_
            refine x_iadd dX3_graph_72 ?_
            refine x_lconst (v := 0) dX3_graph_73 (by decide +kernel) ?_
            refine x_last (64 + k) dX3_graph_74 mw.k7 mw.n7 (nI_add _ _) (by omega) (by decide) ?_
            rw [va_up_up, va_up_self, va_up_ne _ _ (show m + 2 ≠ m + 1 by omega)]
            refine x_eqh rfl (glJ_step (by omega) rfl) ?_
            refine x_aload_n dX3_graph_75 rfl ?_
            refine x_getq dX3_graph_76 fl_X3_16 mw.k mw.r8 rfl ?_
            refine x_iload_n dX3_graph_79 rfl ?_
            refine x_iload_n dX3_graph_80 rfl ?_
            refine x_iast (k) dX3_graph_81 mw.k8 mw.n8 rfl (by omega) (by decide) ?_
            refine x_eqh glI_step rfl ?_
            refine x_iinc dX3_graph_82 rfl rfl (by decide) rfl ?_
            refine x_goto 45 dX3_graph_85 (by decide) ?_
            exact x_eql (by show [_, _, _, Value.int _] = _; simp [nI_1]) (ih (k + 1) (by omega))
      refine x_aload_n dX3_graph_22 rfl ?_
      refine x_iload_n dX3_graph_23 rfl ?_
      refine x_puti dX3_graph_24 fl_X3_59 mw.k rfl (Or.inl rfl) ?_
      refine x_aload_n dX3_graph_27 rfl ?_
      refine x_iload_n dX3_graph_28 rfl ?_
      refine x_puti dX3_graph_29 fl_X3_62 mw.k rfl (Or.inl rfl) ?_
      rw [va_up_up, va_up_self]
      refine x_aload_n dX3_graph_32 rfl ?_
      refine x_iload_n dX3_graph_33 rfl ?_
      refine x_iload_n dX3_graph_34 rfl ?_
      refine x_iadd dX3_graph_35 ?_
      refine x_iconst (v := (1)) dX3_graph_36 (by decide +kernel) ?_
      refine x_isub dX3_graph_37 ?_
      refine x_iload_n dX3_graph_38 rfl ?_
      refine x_idiv dX3_graph_39 (nI_ne0 (by omega) (by omega)) ?_
      refine x_puti dX3_graph_40 fl_X3_65 mw.k rfl (Or.inl rfl) ?_
      rw [va_up_up, va_up_self, nch_e ha1 hb1 ha2 hb2]
      refine x_iconst (v := (0)) dX3_graph_43 (by decide +kernel) ?_
      refine x_istore_n dX3_graph_44 (by decide) rfl ?_
      exact x_eqh (I' := glI I m aj bj 0) (by rw [glI_0]; rfl) glJ_0.symm (x_eql rfl (loop 64 0 rfl))
    · rw [bI_e0] at c17
      refine x_iconst (v := (-1)) dX3_graph_20 (by decide +kernel) ?_
      exact x_zi dX3_graph_21 ⟨by rw [if_neg (by rintro ⟨z1, z2⟩; first | exact c7 z1 | exact c17 z2)], rfl, rfl, rfl, by rw [if_neg (by rintro ⟨z1, z2⟩; first | exact c7 z1 | exact c17 z2)], by rw [if_neg (by rintro ⟨z1, z2⟩; first | exact c7 z1 | exact c17 z2)], rfl⟩
