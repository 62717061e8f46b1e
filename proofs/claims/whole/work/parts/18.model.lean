/-! The reference: count -/
def fsB (I : Nat → Nat → Int32) (m vq kq : Nat) : Bool := !anyP (fun w => I (m + 6) w == 0 && I (m + 3) (64 * w + kq) == I (m + 3) (64 * vq + kq)) vq
def hR (I : Nat → Nat → Int32) (m nc vq : Nat) : Nat := if I (m + 6) vq = 0 then cntP (fun k => fsB I m vq k) nc else 0
def hN (I : Nat → Nat → Int32) (m nc : Nat) : Nat → Nat
  | 0 => 0
  | v + 1 => hN I m nc v + hR I m nc v
def lfN (I : Nat → Nat → Int32) (m : Nat) : Nat → Nat := cntP (fun v => I (m + 6) v == 0)
def cntZ (wq c0 c1 c2 c3 c4 c5 c6 c7 : Int32) : Int32 := if wq = 0 then c0 else if wq = 1 then c1 else if wq = 2 then c2 else if wq = 3 then c3 else if wq = 4 then c4 else if wq = 5 then c5 else if wq = 6 then c6 else if wq = 7 then c7 else -1
theorem tsw {wq : Int32} (h0 : ¬ wq = 0) (h1 : ¬ wq = 1) (h2 : ¬ wq = 2) (h3 : ¬ wq = 3) (h4 : ¬ wq = 4) (h5 : ¬ wq = 5) (h6 : ¬ wq = 6) (h7 : ¬ wq = 7) : wq.toInt < 0 ∨ 7 < wq.toInt := by
  have e : ∀ z : Int32, ¬ wq = z → wq.toInt ≠ z.toInt := fun z h q => h (Int32.toInt_inj.mp q)
  have e0 := e 0 h0; have e1 := e 1 h1; have e2 := e 2 h2; have e3 := e 3 h3; have e4 := e 4 h4; have e5 := e 5 h5; have e6 := e 6 h6; have e7 := e 7 h7
  rw [show (0 : Int32).toInt = 0 from by decide] at e0
  rw [show (1 : Int32).toInt = 1 from by decide] at e1
  rw [show (2 : Int32).toInt = 2 from by decide] at e2
  rw [show (3 : Int32).toInt = 3 from by decide] at e3
  rw [show (4 : Int32).toInt = 4 from by decide] at e4
  rw [show (5 : Int32).toInt = 5 from by decide] at e5
  rw [show (6 : Int32).toInt = 6 from by decide] at e6
  rw [show (7 : Int32).toInt = 7 from by decide] at e7
  omega
theorem band1 {p : Prop} [Decidable p] : bI p &&& 1 = bI p := by
  rcases bI_01 (p := p) with h | h <;> rw [h] <;> decide
theorem band0 {p : Prop} [Decidable p] : bI p &&& 0 = 0 := by
  rcases bI_01 (p := p) with h | h <;> rw [h] <;> decide
set_option maxHeartbeats 4000000 in
theorem c_X3_count (l : Launch) (D : va_G) {K N : Nat → Nat} {R : Nat → Nat → Nat} {I : Nat → Nat → Int32} {J : Nat → Nat → Int64} {sz : Nat} {m : Nat} (mw : MW m K N R) {nv nc : Nat} (h4 : I m 4 = nI nv) (hnv : nv ≤ 60) (h2 : I m 2 = nI nc) (hnc : nc ≤ 64) (qw : Int32) : XM l D yX3_count cX3_count 8 (some .int) 0 0 0 [.ref m, .int qw] K N R I J sz (Zx (some (.int (cntZ qw (I m 0) (I m 4) (nI (lfN I m nv)) (I m 5) (nI (hN I m nc nv)) (I m 13) (I m 18) (I m 3)))) K N R I J sz) := by
  have outer : ∀ (T v : Nat), T + v = nv → XW l D (fun _ => True) RX3 "count" cX3_count 8 0 0 0 K sz (Zx (some (.int (cntZ qw (I m 0) (I m 4) (nI (lfN I m nv)) (I m 5) (nI (hN I m nc nv)) (I m 13) (I m 18) (I m 3)))) K N R I J sz) 7 [.ref m, .int qw, .int (nI (lfN I m v)), .int (nI (hN I m nc v)), .int (nI v), .null, .null, .null] [] K N R (I) (J) sz 0 0 := by
    intro T
    induction T with
    | zero =>
      intro v hv
      obtain rfl : v = nv := by omega
      refine x_iload dX3_count_7 rfl ?_
      refine x_aload_n dX3_count_9 rfl ?_
      refine x_geti dX3_count_10 fl_X3_51 mw.k rfl ?_
      refine x_icmp_ge 149 dX3_count_13 (by decide) (fun c13 => ?_) (fun c13 => ?_)
      · refine x_iload_n dX3_count_149 rfl ?_
        by_cases e0 : qw = 0
        · subst e0
          refine x_tableIn 196 dX3_count_150 (by decide) (by decide) rfl (by decide) ?_
          refine x_aload_n dX3_count_196 rfl ?_
          refine x_geti dX3_count_197 fl_X3_59 mw.k rfl ?_
          exact x_ri dX3_count_200 (by simp [cntZ])
        by_cases e1 : qw = 1
        · subst e1
          refine x_tableIn 201 dX3_count_150 (by decide) (by decide) rfl (by decide) ?_
          refine x_aload_n dX3_count_201 rfl ?_
          refine x_geti dX3_count_202 fl_X3_51 mw.k rfl ?_
          exact x_ri dX3_count_205 (by simp [cntZ])
        by_cases e2 : qw = 2
        · subst e2
          refine x_tableIn 206 dX3_count_150 (by decide) (by decide) rfl (by decide) ?_
          refine x_iload_n dX3_count_206 rfl ?_
          exact x_ri dX3_count_207 (by simp [cntZ])
        by_cases e3 : qw = 3
        · subst e3
          refine x_tableIn 208 dX3_count_150 (by decide) (by decide) rfl (by decide) ?_
          refine x_aload_n dX3_count_208 rfl ?_
          refine x_geti dX3_count_209 fl_X3_72 mw.k rfl ?_
          exact x_ri dX3_count_212 (by simp [cntZ])
        by_cases e4 : qw = 4
        · subst e4
          refine x_tableIn 213 dX3_count_150 (by decide) (by decide) rfl (by decide) ?_
          refine x_iload_n dX3_count_213 rfl ?_
          exact x_ri dX3_count_214 (by simp [cntZ])
        by_cases e5 : qw = 5
        · subst e5
          refine x_tableIn 215 dX3_count_150 (by decide) (by decide) rfl (by decide) ?_
          refine x_aload_n dX3_count_215 rfl ?_
          refine x_geti dX3_count_216 fl_X3_79 mw.k rfl ?_
          exact x_ri dX3_count_219 (by simp [cntZ])
        by_cases e6 : qw = 6
        · subst e6
          refine x_tableIn 220 dX3_count_150 (by decide) (by decide) rfl (by decide) ?_
          refine x_aload_n dX3_count_220 rfl ?_
          refine x_geti dX3_count_221 fl_X3_82 mw.k rfl ?_
          exact x_ri dX3_count_224 (by simp [cntZ])
        by_cases e7 : qw = 7
        · subst e7
          refine x_tableIn 225 dX3_count_150 (by decide) (by decide) rfl (by decide) ?_
          refine x_aload_n dX3_count_225 rfl ?_
          refine x_geti dX3_count_226 fl_X3_69 mw.k rfl ?_
          exact x_ri dX3_count_229 (by simp [cntZ])
        refine x_tableOut 230 dX3_count_150 (tsw e0 e1 e2 e3 e4 e5 e6 e7) (by decide) ?_
        refine x_iconst (v := (-1)) dX3_count_230 (by decide +kernel) ?_
        exact x_ri dX3_count_231 (by simp [cntZ, *])
      · exact absurd (by rw [h4]; exact nI_le (by omega) (by omega)) c13
    | succ T ih =>
      intro v hv
      have mid : I (m + 6) v = 0 → ∀ (T k : Nat), T + k = nc → XW l D (fun _ => True) RX3 "count" cX3_count 8 0 0 0 K sz (Zx (some (.int (cntZ qw (I m 0) (I m 4) (nI (lfN I m nv)) (I m 5) (nI (hN I m nc nv)) (I m 13) (I m 18) (I m 3)))) K N R I J sz) 37 [.ref m, .int qw, .int (nI (lfN I m (v + 1))), .int (nI (hN I m nc v + cntP (fun k => fsB I m v k) k)), .int (nI v), .int (nI k), .null, .null] [] K N R (I) (J) sz 0 0 := by
        intro hg T
        induction T with
        | zero =>
          intro k hk
          obtain rfl : k = nc := by omega
          refine x_iload dX3_count_37 rfl ?_
          refine x_aload_n dX3_count_39 rfl ?_
          refine x_geti dX3_count_40 fl_X3_65 mw.k rfl ?_
          refine x_icmp_ge 143 dX3_count_43 (by decide) (fun c43 => ?_) (fun c43 => ?_)
          · refine x_iinc dX3_count_143 rfl rfl (by decide) rfl ?_
            refine x_goto 7 dX3_count_146 (by decide) ?_
            refine x_drop 5 ?_
            exact x_eql (by show [_, _, _, Value.int _, Value.int _, _, _, _] = _; simp [hN, hR, hg, nI_1]) (ih (v + 1) (by omega))
          · exact absurd (by rw [h2]; exact nI_le (by omega) (by omega)) c43
        | succ T ihk =>
          intro k hk
          have inner : ∀ (T w : Nat), T + w = v → XW l D (fun _ => True) RX3 "count" cX3_count 8 0 0 0 K sz (Zx (some (.int (cntZ qw (I m 0) (I m 4) (nI (lfN I m nv)) (I m 5) (nI (hN I m nc nv)) (I m 13) (I m 18) (I m 3)))) K N R I J sz) 62 [.ref m, .int qw, .int (nI (lfN I m (v + 1))), .int (nI (hN I m nc v + cntP (fun k => fsB I m v k) k)), .int (nI v), .int (nI k), .int (bI (anyP (fun w => I (m + 6) w == 0 && I (m + 3) (64 * w + k) == I (m + 3) (64 * v + k)) w = false)), .int (nI w)] [] K N R (I) (J) sz 0 0 := by
            intro T
            induction T with
            | zero =>
              intro w hw
              obtain rfl : w = v := by omega
              have hfs : (anyP (fun w_1 => I (m + 6) w_1 == 0 && I (m + 3) (64 * w_1 + k) == I (m + 3) (64 * w + k)) w = false) ↔ fsB I m w k = true := by simp [fsB]
              rw [bI_congr hfs]
              refine x_iload dX3_count_62 rfl ?_
              refine x_iload dX3_count_64 rfl ?_
              refine x_icmp_ge 124 dX3_count_66 (by decide) (fun c66 => ?_) (fun c66 => ?_)
              · refine x_iload_n dX3_count_124 rfl ?_
                refine x_iload dX3_count_125 rfl ?_
                refine x_if_eq 134 dX3_count_127 (by decide) (fun c127 => ?_) (fun c127 => ?_)
                · rw [bI_e0] at c127
                  refine x_iconst (v := (0)) dX3_count_134 (by decide +kernel) ?_
                  refine x_iadd dX3_count_135 ?_
                  refine x_istore_n dX3_count_136 (by decide) rfl ?_
                  refine x_iinc dX3_count_137 rfl rfl (by decide) rfl ?_
                  refine x_goto 37 dX3_count_140 (by decide) ?_
                  refine x_drop 6 (x_drop 7 ?_)
                  exact x_eql (by show [_, _, _, Value.int _, _, Value.int _, _, _] = _; simp [cntP, c127, nI_1, Nat.add_assoc]) (ihk (k + 1) (by omega))
                · rw [bI_n0] at c127
                  refine x_iconst (v := (1)) dX3_count_130 (by decide +kernel) ?_
                  refine x_goto 135 dX3_count_131 (by decide) ?_
                  refine x_iadd dX3_count_135 ?_
                  refine x_istore_n dX3_count_136 (by decide) rfl ?_
                  refine x_iinc dX3_count_137 rfl rfl (by decide) rfl ?_
                  refine x_goto 37 dX3_count_140 (by decide) ?_
                  refine x_drop 6 (x_drop 7 ?_)
                  exact x_eql (by show [_, _, _, Value.int _, _, Value.int _, _, _] = _; simp [cntP, c127, nI_1, Nat.add_assoc]) (ihk (k + 1) (by omega))
              · exact absurd (nI_le (by omega) (by omega)) c66
            | succ T ihq =>
              intro w hw
              refine x_iload dX3_count_62 rfl ?_
              refine x_iload dX3_count_64 rfl ?_
              refine x_icmp_ge 124 dX3_count_66 (by decide) (fun c66 => ?_) (fun c66 => ?_)
              · exact absurd c66 (nI_ge (by omega) (by omega))
              · refine x_iload dX3_count_69 rfl ?_
                refine x_aload_n dX3_count_71 rfl ?_
                refine x_getq dX3_count_72 fl_X3_26 mw.k mw.r11 rfl ?_
                refine x_iload dX3_count_75 rfl ?_
                refine x_zald _ dX3_count_77 mw.k11 mw.n11 rfl (by omega) (by decide) ?_
                refine x_if_ne 110 dX3_count_78 (by decide) (fun c78 => ?_) (fun c78 => ?_)
                · have hq : (fun w => I (m + 6) w == 0 && I (m + 3) (64 * w + k) == I (m + 3) (64 * v + k)) w = false := by simp [c78]
                  have hst : bI (anyP (fun w => I (m + 6) w == 0 && I (m + 3) (64 * w + k) == I (m + 3) (64 * v + k)) (w + 1) = false) = bI (anyP (fun w => I (m + 6) w == 0 && I (m + 3) (64 * w + k) == I (m + 3) (64 * v + k)) w = false) &&& 1 := by rw [band1]; simp only [anyP, hq, Bool.or_false]
                  refine x_iconst (v := (1)) dX3_count_110 (by decide +kernel) ?_
                  refine x_goto 115 dX3_count_111 (by decide) ?_
                  refine x_iand dX3_count_115 ?_
                  refine x_istore dX3_count_116 (by decide) rfl ?_
                  refine x_iinc dX3_count_118 rfl rfl (by decide) rfl ?_
                  refine x_goto 62 dX3_count_121 (by decide) ?_
                  exact x_eql (by show [_, _, _, _, _, _, Value.int _, Value.int _] = _; rw [hst, ← nI_1]; rfl) (ihq (w + 1) (by omega))
                · refine x_aload_n dX3_count_81 rfl ?_
                  refine x_getq dX3_count_82 fl_X3_16 mw.k mw.r8 rfl ?_
                  refine x_bipush (v := (nI 64)) dX3_count_85 (by decide +kernel) ?_
                  refine x_iload dX3_count_87 rfl ?_
                  refine x_imul dX3_count_89 ?_
                  refine x_iload dX3_count_90 rfl ?_
                  refine x_iadd dX3_count_92 ?_
                  refine x_iald (64 * w + k) dX3_count_93 mw.k8 mw.n8 (by rw [pk_mul, nI_add]) (by omega) (by decide) ?_
                  refine x_aload_n dX3_count_94 rfl ?_
                  refine x_getq dX3_count_95 fl_X3_16 mw.k mw.r8 rfl ?_
                  refine x_bipush (v := (nI 64)) dX3_count_98 (by decide +kernel) ?_
                  refine x_iload dX3_count_100 rfl ?_
                  refine x_imul dX3_count_102 ?_
                  refine x_iload dX3_count_103 rfl ?_
                  refine x_iadd dX3_count_105 ?_
                  refine x_iald (64 * v + k) dX3_count_106 mw.k8 mw.n8 (by rw [pk_mul, nI_add]) (by omega) (by decide) ?_
                  refine x_icmp_eq 114 dX3_count_107 (by decide) (fun c107 => ?_) (fun c107 => ?_)
                  · have hq : (fun w => I (m + 6) w == 0 && I (m + 3) (64 * w + k) == I (m + 3) (64 * v + k)) w = true := by simp [c78, c107]
                    have hst : bI (anyP (fun w => I (m + 6) w == 0 && I (m + 3) (64 * w + k) == I (m + 3) (64 * v + k)) (w + 1) = false) = bI (anyP (fun w => I (m + 6) w == 0 && I (m + 3) (64 * w + k) == I (m + 3) (64 * v + k)) w = false) &&& 0 := by rw [band0, bI_f]; simp only [anyP, hq, Bool.or_true]; simp
                    refine x_iconst (v := (0)) dX3_count_114 (by decide +kernel) ?_
                    refine x_iand dX3_count_115 ?_
                    refine x_istore dX3_count_116 (by decide) rfl ?_
                    refine x_iinc dX3_count_118 rfl rfl (by decide) rfl ?_
                    refine x_goto 62 dX3_count_121 (by decide) ?_
                    exact x_eql (by show [_, _, _, _, _, _, Value.int _, Value.int _] = _; rw [hst, ← nI_1]; rfl) (ihq (w + 1) (by omega))
                  · have hq : (fun w => I (m + 6) w == 0 && I (m + 3) (64 * w + k) == I (m + 3) (64 * v + k)) w = false := by simp [c107]
                    have hst : bI (anyP (fun w => I (m + 6) w == 0 && I (m + 3) (64 * w + k) == I (m + 3) (64 * v + k)) (w + 1) = false) = bI (anyP (fun w => I (m + 6) w == 0 && I (m + 3) (64 * w + k) == I (m + 3) (64 * v + k)) w = false) &&& 1 := by rw [band1]; simp only [anyP, hq, Bool.or_false]
                    refine x_iconst (v := (1)) dX3_count_110 (by decide +kernel) ?_
                    refine x_goto 115 dX3_count_111 (by decide) ?_
                    refine x_iand dX3_count_115 ?_
                    refine x_istore dX3_count_116 (by decide) rfl ?_
                    refine x_iinc dX3_count_118 rfl rfl (by decide) rfl ?_
                    refine x_goto 62 dX3_count_121 (by decide) ?_
                    exact x_eql (by show [_, _, _, _, _, _, Value.int _, Value.int _] = _; rw [hst, ← nI_1]; rfl) (ihq (w + 1) (by omega))
          refine x_iload dX3_count_37 rfl ?_
          refine x_aload_n dX3_count_39 rfl ?_
          refine x_geti dX3_count_40 fl_X3_65 mw.k rfl ?_
          refine x_icmp_ge 143 dX3_count_43 (by decide) (fun c43 => ?_) (fun c43 => ?_)
          · rw [h2] at c43; exact absurd c43 (nI_ge (by omega) (by omega))
          · refine x_aload_n dX3_count_46 rfl ?_
            refine x_getq dX3_count_47 fl_X3_26 mw.k mw.r11 rfl ?_
            refine x_iload dX3_count_50 rfl ?_
            refine x_zald _ dX3_count_52 mw.k11 mw.n11 rfl (by omega) (by decide) ?_
            refine x_if_ne 143 dX3_count_53 (by decide) (fun c53 => ?_) (fun c53 => ?_)
            · exact absurd hg c53
            · refine x_iconst (v := (1)) dX3_count_56 (by decide +kernel) ?_
              refine x_istore dX3_count_57 (by decide) rfl ?_
              refine x_iconst (v := (0)) dX3_count_59 (by decide +kernel) ?_
              refine x_istore dX3_count_60 (by decide) rfl ?_
              exact x_eql (by show [_, _, _, _, _, _, Value.int _, Value.int _] = _; rw [bI_t (show anyP (fun w => I (m + 6) w == 0 && I (m + 3) (64 * w + k) == I (m + 3) (64 * v + k)) 0 = false from rfl)]; rfl) (inner v 0 rfl)
      refine x_iload dX3_count_7 rfl ?_
      refine x_aload_n dX3_count_9 rfl ?_
      refine x_geti dX3_count_10 fl_X3_51 mw.k rfl ?_
      refine x_icmp_ge 149 dX3_count_13 (by decide) (fun c13 => ?_) (fun c13 => ?_)
      · rw [h4] at c13; exact absurd c13 (nI_ge (by omega) (by omega))
      · refine x_iload_n dX3_count_16 rfl ?_
        refine x_aload_n dX3_count_17 rfl ?_
        refine x_getq dX3_count_18 fl_X3_26 mw.k mw.r11 rfl ?_
        refine x_iload dX3_count_21 rfl ?_
        refine x_zald _ dX3_count_23 mw.k11 mw.n11 rfl (by omega) (by decide) ?_
        refine x_if_eq 31 dX3_count_24 (by decide) (fun c24 => ?_) (fun c24 => ?_)
        · have hlf : lfN I m (v + 1) = lfN I m v + 1 := by simp [lfN, cntP, c24]
          refine x_iconst (v := (1)) dX3_count_31 (by decide +kernel) ?_
          refine x_iadd dX3_count_32 ?_
          refine x_istore_n dX3_count_33 (by decide) rfl ?_
          refine x_iconst (v := (0)) dX3_count_34 (by decide +kernel) ?_
          refine x_istore dX3_count_35 (by decide) rfl ?_
          exact x_eql (by show [_, _, Value.int _, Value.int _, _, Value.int _, _, _] = _; simp [hlf, cntP, nI_1, nI_0]) (mid c24 nc 0 rfl)
        · have hlf : lfN I m (v + 1) = lfN I m v := by simp [lfN, cntP, c24]
          have hn1 : hN I m nc (v + 1) = hN I m nc v := by simp [hN, hR, c24]
          refine x_iconst (v := (0)) dX3_count_27 (by decide +kernel) ?_
          refine x_goto 32 dX3_count_28 (by decide) ?_
          refine x_iadd dX3_count_32 ?_
          refine x_istore_n dX3_count_33 (by decide) rfl ?_
          refine x_iconst (v := (0)) dX3_count_34 (by decide +kernel) ?_
          refine x_istore dX3_count_35 (by decide) rfl ?_
          refine x_iload dX3_count_37 rfl ?_
          refine x_aload_n dX3_count_39 rfl ?_
          refine x_geti dX3_count_40 fl_X3_65 mw.k rfl ?_
          refine x_icmp_ge 143 dX3_count_43 (by decide) (fun c43 => ?_) (fun c43 => ?_)
          · refine x_iinc dX3_count_143 rfl rfl (by decide) rfl ?_
            refine x_goto 7 dX3_count_146 (by decide) ?_
            refine x_drop 5 ?_
            exact x_eql (by show [_, _, Value.int _, Value.int _, Value.int _, _, _, _] = _; simp [hlf, hn1, nI_1]) (ih (v + 1) (by omega))
          · refine x_aload_n dX3_count_46 rfl ?_
            refine x_getq dX3_count_47 fl_X3_26 mw.k mw.r11 rfl ?_
            refine x_iload dX3_count_50 rfl ?_
            refine x_zald _ dX3_count_52 mw.k11 mw.n11 rfl (by omega) (by decide) ?_
            refine x_if_ne 143 dX3_count_53 (by decide) (fun c53 => ?_) (fun c53 => ?_)
            · refine x_iinc dX3_count_143 rfl rfl (by decide) rfl ?_
              refine x_goto 7 dX3_count_146 (by decide) ?_
              refine x_drop 5 ?_
              exact x_eql (by show [_, _, Value.int _, Value.int _, Value.int _, _, _, _] = _; simp [hlf, hn1, nI_1]) (ih (v + 1) (by omega))
            · exact absurd c53 c24
  refine XM.of (own := RX3) (nm := "count") (by decide +kernel) rfl rfl (by simp [xla, Value.category]) [.ref m, .int qw, .null, .null, .null, .null, .null, .null] rfl (Zx.rt ⟨_, rfl⟩) ?_
  refine x_iconst (v := (0)) dX3_count_0 (by decide +kernel) ?_
  refine x_istore_n dX3_count_1 (by decide) rfl ?_
  refine x_iconst (v := (0)) dX3_count_2 (by decide +kernel) ?_
  refine x_istore_n dX3_count_3 (by decide) rfl ?_
  refine x_iconst (v := (0)) dX3_count_4 (by decide +kernel) ?_
  refine x_istore dX3_count_5 (by decide) rfl ?_
  exact x_eql rfl (outer nv 0 rfl)
