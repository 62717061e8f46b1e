set_option maxHeartbeats 4000000 in
theorem c_X3_arc (l : Launch) (D : va_G) {K N : Nat → Nat} {R : Nat → Nat → Nat} {I : Nat → Nat → Int32} {J : Nat → Nat → Int64} {sz : Nat} {m : Nat} (mw : MW m K N R) {nv nn : Nat} (h4 : I m 4 = nI nv) (hnv : nv ≤ 60) (h0 : I m 0 = nI nn) (hnn : nn ≤ 64) (qv qk qw : Int32) : XM l D yX3_arc cX3_arc 7 (some .int) 2 0 0 [.ref m, .int qv, .int qk, .int qw] K N R I J sz (Zx (some (.int (if pV I m nv qv ∧ (¬ qw < 0 ∧ ¬ 1 < qw) then ansL (arcL (fun f t => bt (J (m + 1) (64 * qv.toNatClampNeg + f)) t) nn nn) qk qw else -1))) K N R I J sz) := by
  refine XM.of (own := RX3) (nm := "arc") (by decide +kernel) rfl rfl (by simp [xla, Value.category]) [.ref m, .int qv, .int qk, .int qw, .null, .null, .null] rfl (Zx.rt ⟨_, rfl⟩) ?_
  refine x_aload_n dX3_arc_0 rfl ?_
  refine x_iload_n dX3_arc_1 rfl ?_
  refine x_eV (c_X3_isVersion l D mw h4 hnv _) dX3_arc_2 lk_X3_106 im_X3_isVersion se_X3_isVersion cd_X3_isVersion (by decide) mw.k vcX3 rfl (by decide) rfl (by first | decide | simp [Value.category]) ?_
  refine x_if_eq 17 dX3_arc_5 (by decide) (fun c5 => ?_) (fun c5 => ?_)
  · rw [bI_e0] at c5
    refine x_iconst (v := (-1)) dX3_arc_17 (by decide +kernel) ?_
    first
      | exact x_ri dX3_arc_18 (by rw [if_neg (fun z => c5 z.1)])
      | exact x_ri dX3_arc_18 (by rw [if_neg (fun z => c14 z.2)])
  · rw [bI_n0] at c5
    obtain ⟨vj, hvj, rfl⟩ := pN_ex c5.1
    refine x_iload_n dX3_arc_8 rfl ?_
    refine x_iconst (v := (0)) dX3_arc_9 (by decide +kernel) ?_
    refine x_iconst (v := (1)) dX3_arc_10 (by decide +kernel) ?_
    refine x_eS (c_X3_isIn l D _ _ _) dX3_arc_11 lk_X3_55 st_X3_isIn cd_X3_isIn rfl (by decide) rfl (by first | decide | simp [Value.category]) ?_
    refine x_if_ne 19 dX3_arc_14 (by decide) (fun c14 => ?_) (fun c14 => ?_)
    · rw [bI_n0] at c14
      have hG : pV I m nv (nI vj) ∧ (¬ qw < 0 ∧ ¬ 1 < qw) := ⟨c5, c14⟩
      obtain ⟨pp, hpp⟩ : ∃ pp : Nat → Nat → Bool, pp = (fun f t => bt (J (m + 1) (64 * vj + f)) t) := ⟨_, rfl⟩
      have hpe : ∀ f t, bt (J (m + 1) (64 * vj + f)) t = pp f t := fun f t => by rw [hpp]
      have outer : ∀ (T f : Nat), T + f = nn → (∀ i, i < (arcL pp nn f).length → ¬ nI i = qk) → XW l D (fun _ => True) RX3 "arc" cX3_arc 7 2 0 0 K sz (Zx (some (.int (if pV I m nv (nI vj) ∧ (¬ qw < 0 ∧ ¬ 1 < qw) then ansL (arcL (fun f t => bt (J (m + 1) (64 * (nI vj).toNatClampNeg + f)) t) nn nn) qk qw else -1))) K N R I J sz) 25 [.ref m, .int (nI vj), .int qk, .int qw, .int (nI (arcL pp nn f).length), .int (nI f), .null] [] K N R (I) (J) sz 0 0 := by
        intro T
        induction T with
        | zero =>
          intro f hf hb
          obtain rfl : f = nn := by omega
          have hl1 : (arcL pp f f).length ≤ 64 * 64 := Nat.le_trans arcL_len (Nat.mul_le_mul hnn hnn)
          refine x_iload dX3_arc_25 rfl ?_
          refine x_aload_n dX3_arc_27 rfl ?_
          refine x_geti dX3_arc_28 fl_X3_59 mw.k rfl ?_
          refine x_icmp_ge 93 dX3_arc_31 (by decide) (fun c31 => ?_) (fun c31 => ?_)
          · refine x_ldc dX3_arc_93 ki_X3_68 ?_
            exact x_ri dX3_arc_95 (by rw [if_pos hG, clz (show vj < 64 by omega), ← hpp, ansL_no hb (by omega)])
          · exact absurd (by rw [h0]; exact nI_le (by omega) (by omega)) c31
        | succ T ih =>
          intro f hf hb
          have inner : ∀ (T t : Nat), T + t = nn → (∀ i, i < (arcL pp nn f).length + cntP (pp f) t → ¬ nI i = qk) → XW l D (fun _ => True) RX3 "arc" cX3_arc 7 2 0 0 K sz (Zx (some (.int (if pV I m nv (nI vj) ∧ (¬ qw < 0 ∧ ¬ 1 < qw) then ansL (arcL (fun f t => bt (J (m + 1) (64 * (nI vj).toNatClampNeg + f)) t) nn nn) qk qw else -1))) K N R I J sz) 37 [.ref m, .int (nI vj), .int qk, .int qw, .int (nI ((arcL pp nn f).length + cntP (pp f) t)), .int (nI f), .int (nI t)] [] K N R (I) (J) sz 0 0 := by
            intro T
            induction T with
            | zero =>
              intro t ht hb
              obtain rfl : t = nn := by omega
              refine x_iload dX3_arc_37 rfl ?_
              refine x_aload_n dX3_arc_39 rfl ?_
              refine x_geti dX3_arc_40 fl_X3_59 mw.k rfl ?_
              refine x_icmp_ge 87 dX3_arc_43 (by decide) (fun c43 => ?_) (fun c43 => ?_)
              · refine x_iinc dX3_arc_87 rfl rfl (by decide) rfl ?_
                refine x_goto 25 dX3_arc_90 (by decide) ?_
                refine x_drop 6 ?_
                exact x_eql (by show [_, _, _, _, Value.int _, Value.int _, _] = _; simp [arcL_suc, nI_1]) (ih (f + 1) (by omega) (by rw [arcL_suc]; exact hb))
              · exact absurd (by rw [h0]; exact nI_le (by omega) (by omega)) c43
            | succ T ihq =>
              intro t ht hb
              have hl1 : (arcL pp nn f).length ≤ 64 * 64 := Nat.le_trans arcL_len (Nat.mul_le_mul (by omega) hnn)
              have hl2 := cntP_le (pp f) t
              refine x_iload dX3_arc_37 rfl ?_
              refine x_aload_n dX3_arc_39 rfl ?_
              refine x_geti dX3_arc_40 fl_X3_59 mw.k rfl ?_
              refine x_icmp_ge 87 dX3_arc_43 (by decide) (fun c43 => ?_) (fun c43 => ?_)
              · rw [h0] at c43; exact absurd c43 (nI_ge (by omega) (by omega))
              · refine x_aload_n dX3_arc_46 rfl ?_
                refine x_iload_n dX3_arc_47 rfl ?_
                refine x_iload dX3_arc_48 rfl ?_
                refine x_iload dX3_arc_50 rfl ?_
                refine x_top (tN_a (show t < 64 by omega)).symm ?_
                refine x_eV (c_X3_item l D mw (v := vj) (n := f) (c := t) (by omega) (by omega) (by omega)) dX3_arc_52 lk_X3_91 im_X3_item se_X3_item cd_X3_item (by decide) mw.k vcX3 rfl (by decide) rfl (by first | decide | simp [Value.category]) ?_
                rw [itm_a (show t < 64 by omega)]
                refine x_lconst (v := 1) dX3_arc_55 (by decide +kernel) ?_
                refine x_lcmp dX3_arc_56 ?_
                refine x_if_ne 81 dX3_arc_57 (by decide) (fun c57 => ?_) (fun c57 => ?_)
                · rw [cmp_eq, it_1, hpe] at c57
                  have hcnt : cntP (pp f) (t + 1) = cntP (pp f) t := by simp [cntP, c57]
                  have hstep : ∀ i, i < (arcL pp nn f).length + cntP (pp f) (t + 1) → ¬ nI i = qk := by rw [hcnt]; exact hb
                  refine x_iinc dX3_arc_81 rfl rfl (by decide) rfl ?_
                  refine x_goto 37 dX3_arc_84 (by decide) ?_
                  exact x_eql (by show [_, _, _, _, Value.int _, Value.int _, Value.int _] = _; simp [hcnt, nI_1, Nat.add_assoc]) (ihq (t + 1) (by omega) hstep)
                · rw [cmp_eq, it_1, hpe] at c57
                  refine x_iload dX3_arc_60 rfl ?_
                  refine x_iload_n dX3_arc_62 rfl ?_
                  refine x_icmp_ne 78 dX3_arc_63 (by decide) (fun c63 => ?_) (fun c63 => ?_)
                  · have hcnt : cntP (pp f) (t + 1) = cntP (pp f) t + 1 := by simp [cntP, c57]
                    have hstep : ∀ i, i < (arcL pp nn f).length + cntP (pp f) (t + 1) → ¬ nI i = qk := by
                      rw [hcnt]
                      intro i hi
                      by_cases e : i = (arcL pp nn f).length + cntP (pp f) t
                      · rw [e]; exact c63
                      · exact hb i (by omega)
                    refine x_iinc dX3_arc_78 rfl rfl (by decide) rfl ?_
                    refine x_iinc dX3_arc_81 rfl rfl (by decide) rfl ?_
                    refine x_goto 37 dX3_arc_84 (by decide) ?_
                    exact x_eql (by show [_, _, _, _, Value.int _, Value.int _, Value.int _] = _; simp [hcnt, nI_1, Nat.add_assoc]) (ihq (t + 1) (by omega) hstep)
                  · refine x_iload_n dX3_arc_66 rfl ?_
                    refine x_if_ne 75 dX3_arc_67 (by decide) (fun c67 => ?_) (fun c67 => ?_)
                    · refine x_iload dX3_arc_75 rfl ?_
                      first
                        | exact x_ri dX3_arc_77 (by rw [if_pos hG, clz (show vj < 64 by omega), ← hpp, ← c63, ansL_at (by omega) (arcL_get (p := pp) (by omega) (by omega) c57), if_pos c67])
                        | exact x_ri dX3_arc_77 (by rw [if_pos hG, clz (show vj < 64 by omega), ← hpp, ← c63, ansL_at (by omega) (arcL_get (p := pp) (by omega) (by omega) c57), if_neg c67])
                    · refine x_iload dX3_arc_70 rfl ?_
                      refine x_goto 77 dX3_arc_72 (by decide) ?_
                      first
                        | exact x_ri dX3_arc_77 (by rw [if_pos hG, clz (show vj < 64 by omega), ← hpp, ← c63, ansL_at (by omega) (arcL_get (p := pp) (by omega) (by omega) c57), if_pos c67])
                        | exact x_ri dX3_arc_77 (by rw [if_pos hG, clz (show vj < 64 by omega), ← hpp, ← c63, ansL_at (by omega) (arcL_get (p := pp) (by omega) (by omega) c57), if_neg c67])
          refine x_iload dX3_arc_25 rfl ?_
          refine x_aload_n dX3_arc_27 rfl ?_
          refine x_geti dX3_arc_28 fl_X3_59 mw.k rfl ?_
          refine x_icmp_ge 93 dX3_arc_31 (by decide) (fun c31 => ?_) (fun c31 => ?_)
          · rw [h0] at c31; exact absurd c31 (nI_ge (by omega) (by omega))
          · refine x_iconst (v := (0)) dX3_arc_34 (by decide +kernel) ?_
            refine x_istore dX3_arc_35 (by decide) rfl ?_
            exact x_eql rfl (inner nn 0 rfl hb)
      refine x_iconst (v := (0)) dX3_arc_19 (by decide +kernel) ?_
      refine x_istore dX3_arc_20 (by decide) rfl ?_
      refine x_iconst (v := (0)) dX3_arc_22 (by decide +kernel) ?_
      refine x_istore dX3_arc_23 (by decide) rfl ?_
      exact x_eql rfl (outer nn 0 rfl (fun i hi => absurd hi (by simp [arcL, lstP])))
    · rw [bI_e0] at c14
      refine x_iconst (v := (-1)) dX3_arc_17 (by decide +kernel) ?_
      first
        | exact x_ri dX3_arc_18 (by rw [if_neg (fun z => c5 z.1)])
        | exact x_ri dX3_arc_18 (by rw [if_neg (fun z => c14 z.2)])
