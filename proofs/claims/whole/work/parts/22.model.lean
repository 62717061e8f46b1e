/-! The reference: turn -/
def okR (J : Nat → Nat → Int64) (m v : Nat) (nd cd : Nat → Nat) (k : Nat) : Bool := itm J m v (nd k) (cd k) == J (m + 9) k || itm J m v (nd k) (cd k) == J (m + 10) k
def tnJ (J : Nat → Nat → Int64) (m v nv : Nat) (nd cd : Nat → Nat) : Nat → Nat → Nat → Int64
  | 0 => cpJ J m v nv 64
  | k + 1 => if itm J m v (nd k) (cd k) = J (m + 10) k then tnJ J m v nv nd cd k else setm (tnJ J m v nv nd cd k) m nv (nd k) (cd k) (J (m + 10) k)
def tnL (J : Nat → Nat → Int64) (m v s : Nat) (nd cd : Nat → Nat) : Nat → Int32
  | 0 => -99999999
  | k + 1 => if itm J m v (nd k) (cd k) = J (m + 10) k then tnL J m v s nd cd k else nI (nd k / s)
def tnI (I : Nat → Nat → Int32) (J : Nat → Nat → Int64) (m v nv s : Nat) (nd cd : Nat → Nat) : Nat → Nat → Nat → Int32
  | 0 => cpI2 I m v nv
  | k + 1 => if itm J m v (nd k) (cd k) = J (m + 10) k then tnI I J m v nv s nd cd k else if nI (nd k / s) = tnL J m v s nd cd k then tnI I J m v nv s nd cd k else frI (tnI I J m v nv s nd cd k) m nv (nd k / s)
theorem setm_i {J : Nat → Nat → Int64} {m v nv n n' c c' : Nat} {x : Int64} (hv : v < nv) (hn : n < 64) (hn' : n' < 64) (hc : c < 66) (hc' : c' < 66) : itm (setm J m nv n' c' x) m v n c = itm J m v n c := by
  unfold itm setm
  by_cases h : c < 64 <;> by_cases h' : c' < 64
  · rw [if_pos h, if_pos h, if_pos h', va_up_self, va_up_ne _ _ (by omega)]
  · rw [if_pos h, if_pos h, if_neg h', va_up_ne _ _ (by omega)]
  · rw [if_neg h, if_neg h, if_pos h', va_up_ne _ _ (by omega)]
  · rw [if_neg h, if_neg h, if_neg h', va_up_self, va_up_ne _ _ (by omega)]
theorem setm_o {J : Nat → Nat → Int64} {m v n c r : Nat} {x : Int64} (h1 : r ≠ m + 1) (h2 : r ≠ m + 2) : setm J m v n c x r = J r := by
  unfold setm
  split
  · exact va_up_ne _ _ h1
  · exact va_up_ne _ _ h2
theorem cpJ_o {J : Nat → Nat → Int64} {m fr nv k r : Nat} (h1 : r ≠ m + 1) (h2 : r ≠ m + 2) : cpJ J m fr nv k r = J r := by
  unfold cpJ; rw [va_up_ne _ _ h2, va_up_ne _ _ h1]
theorem cpI2_o {I : Nat → Nat → Int32} {m fr nv r : Nat} (h3 : r ≠ m + 3) (h4 : r ≠ m + 4) (h5 : r ≠ m + 5) (h6 : r ≠ m + 6) : cpI2 I m fr nv r = I r := by
  unfold cpI2 cpI; rw [va_up_ne _ _ h6, va_up_ne _ _ h5, va_up_ne _ _ h4, va_up_ne _ _ h3]
theorem frI_o {I : Nat → Nat → Int32} {m nv k r : Nat} (h0 : r ≠ m) (h3 : r ≠ m + 3) : frI I m nv k r = I r := by
  unfold frI; rw [va_up_ne _ _ h0, va_up_ne _ _ h3]
section
variable {I : Nat → Nat → Int32} {J : Nat → Nat → Int64} {m v nv s rm : Nat} {nd cd : Nat → Nat}
theorem tnJ_i (hv : v < nv) (hh : ∀ k, k < rm → nd k < 64 ∧ cd k < 66) {k n c : Nat} (hk : k ≤ rm) (hn : n < 64) (hc : c < 66) : itm (tnJ J m v nv nd cd k) m v n c = itm J m v n c := by
  induction k with
  | zero => exact itm_cp hv hn hc
  | succ k ih =>
    simp only [tnJ]
    have := hh k (by omega)
    split
    · exact ih (by omega)
    · rw [setm_i hv hn this.1 hc this.2]; exact ih (by omega)
theorem tnJ_o {k r : Nat} (h1 : r ≠ m + 1) (h2 : r ≠ m + 2) : tnJ J m v nv nd cd k r = J r := by
  induction k with
  | zero => exact cpJ_o h1 h2
  | succ k ih => simp only [tnJ]; split <;> simp [setm_o h1 h2, ih]
theorem tnI_o {k r : Nat} (h0 : r ≠ m) (h3 : r ≠ m + 3) (h4 : r ≠ m + 4) (h5 : r ≠ m + 5) (h6 : r ≠ m + 6) : tnI I J m v nv s nd cd k r = I r := by
  induction k with
  | zero => exact cpI2_o h3 h4 h5 h6
  | succ k ih => simp only [tnI]; split; · exact ih
                 split <;> simp [frI_o h0 h3, ih]
theorem tnI_f {k j : Nat} (hj : j ≠ 5) : tnI I J m v nv s nd cd k m j = I m j := by
  induction k with
  | zero => simp [tnI, cpI2_m]
  | succ k ih => simp only [tnI]; split; · exact ih
                 split
                 · exact ih
                 · rw [frI_m, va_up_ne _ _ hj]; exact ih
end
set_option maxHeartbeats 4000000 in
theorem c_X3_turn (l : Launch) (D : va_G) {K N : Nat → Nat} {R : Nat → Nat → Nat} {I : Nat → Nat → Int32} {J : Nat → Nat → Int64} {sz : Nat} {m : Nat} (mw : MW m K N R) {nv s rm : Nat} {nd cd : Nat → Nat} (h4 : I m 4 = nI nv) (hnv : nv ≤ 60) (h1 : I m 1 = nI s) (hs0 : 0 < nv → 0 < s) (hs : s ≤ 64) (hr : I m 13 = nI rm) (hrm : rm ≤ 4224) (h12 : I m 12 = 0 ∨ I m 12 = 1) (hnd : ∀ k, k < rm → I (m + 7) k = nI (nd k) ∧ nd k < 64 ∧ I (m + 8) k = tN (cd k) ∧ cd k < 66) (qv : Int32) : XM l D yX3_turn cX3_turn 6 (some .int) 2 0 0 [.ref m, .int qv] K N R I J sz (Zx (some (.int (if pV I m nv qv then (if (I m 12 = 1 ∧ anyP (fun k => !okR J m qv.toNatClampNeg nd cd k) rm = false) then chA nv else -2) else -1))) K N R (if pV I m nv qv ∧ (I m 12 = 1 ∧ anyP (fun k => !okR J m qv.toNatClampNeg nd cd k) rm = false) ∧ ¬ nv = 60 then mdI (tnI I J m qv.toNatClampNeg nv s nd cd rm) m else I) (if pV I m nv qv ∧ (I m 12 = 1 ∧ anyP (fun k => !okR J m qv.toNatClampNeg nd cd k) rm = false) ∧ ¬ nv = 60 then tnJ J m qv.toNatClampNeg nv nd cd rm else J) sz) := by
  refine XM.of (own := RX3) (nm := "turn") (by decide +kernel) rfl rfl (by simp [xla, Value.category]) [.ref m, .int qv, .null, .null, .null, .null] rfl (Zx.rt ⟨_, rfl⟩) ?_
  refine x_aload_n dX3_turn_0 rfl ?_
  refine x_iload_n dX3_turn_1 rfl ?_
  refine x_eV (c_X3_isVersion l D mw h4 hnv _) dX3_turn_2 lk_X3_106 im_X3_isVersion se_X3_isVersion cd_X3_isVersion (by decide) mw.k vcX3 rfl (by decide) rfl (by first | decide | simp [Value.category]) ?_
  refine x_if_ne 10 dX3_turn_5 (by decide) (fun c5 => ?_) (fun c5 => ?_)
  · rw [bI_n0] at c5
    obtain ⟨vj, hvj, rfl⟩ := pN_ex c5.1
    have hs0 := hs0 (by omega)
    have hnd2 : ∀ k, k < rm → nd k < 64 ∧ cd k < 66 := fun k hk => ⟨(hnd k hk).2.1, (hnd k hk).2.2.2⟩
    have after : XW l D (fun _ => True) RX3 "turn" cX3_turn 6 2 0 0 K sz (Zx (some (.int (if pV I m nv (nI vj) then (if (I m 12 = 1 ∧ anyP (fun k => !okR J m (nI vj).toNatClampNeg nd cd k) rm = false) then chA nv else -2) else -1))) K N R (if pV I m nv (nI vj) ∧ (I m 12 = 1 ∧ anyP (fun k => !okR J m (nI vj).toNatClampNeg nd cd k) rm = false) ∧ ¬ nv = 60 then mdI (tnI I J m (nI vj).toNatClampNeg nv s nd cd rm) m else I) (if pV I m nv (nI vj) ∧ (I m 12 = 1 ∧ anyP (fun k => !okR J m (nI vj).toNatClampNeg nd cd k) rm = false) ∧ ¬ nv = 60 then tnJ J m (nI vj).toNatClampNeg nv nd cd rm else J) sz) 84 [.ref m, .int (nI vj), .int (bI (I m 12 = 1 ∧ anyP (fun k => !okR J m vj nd cd k) rm = false)), .null, .null, .null] [] K N R (I) (J) sz 0 0 := by
      refine x_iload_n dX3_turn_84 rfl ?_
      refine x_if_ne 91 dX3_turn_85 (by decide) (fun c85 => ?_) (fun c85 => ?_)
      · rw [bI_n0] at c85
        refine x_aload_n dX3_turn_91 rfl ?_
        refine x_geti dX3_turn_92 fl_X3_51 mw.k rfl ?_
        refine x_bipush (v := (nI 60)) dX3_turn_95 (by decide +kernel) ?_
        refine x_icmp_ne 103 dX3_turn_97 (by decide) (fun c97 => ?_) (fun c97 => ?_)
        · have h60 : nv < 60 := by
            rcases Nat.lt_or_ge nv 60 with z | z
            · exact z
            · exact absurd (by rw [h4, show nv = 60 by omega]) c97
          have hcan := c85
          have loop2 : ∀ (t k : Nat), t + k = rm → XW l D (fun _ => True) RX3 "turn" cX3_turn 6 2 0 0 K sz (Zx (some (.int (if pV I m nv (nI vj) then (if (I m 12 = 1 ∧ anyP (fun k => !okR J m (nI vj).toNatClampNeg nd cd k) rm = false) then chA nv else -2) else -1))) K N R (if pV I m nv (nI vj) ∧ (I m 12 = 1 ∧ anyP (fun k => !okR J m (nI vj).toNatClampNeg nd cd k) rm = false) ∧ ¬ nv = 60 then mdI (tnI I J m (nI vj).toNatClampNeg nv s nd cd rm) m else I) (if pV I m nv (nI vj) ∧ (I m 12 = 1 ∧ anyP (fun k => !okR J m (nI vj).toNatClampNeg nd cd k) rm = false) ∧ ¬ nv = 60 then tnJ J m (nI vj).toNatClampNeg nv nd cd rm else J) sz) 114 [.ref m, .int (nI vj), .int 1, .int (tnL J m vj s nd cd k), .int (nI k), .null] [] K N R (tnI I J m vj nv s nd cd k) (tnJ J m vj nv nd cd k) sz 0 0 := by
            intro t
            induction t with
            | zero =>
              intro k hk
              refine x_iload dX3_turn_114 rfl ?_
              refine x_aload_n dX3_turn_116 rfl ?_
              refine x_geti dX3_turn_117 fl_X3_79 mw.k rfl ?_
              refine x_icmp_ge 222 dX3_turn_120 (by decide) (fun c120 => ?_) (fun c120 => ?_)
              · obtain rfl : k = rm := by omega
                refine x_aload_n dX3_turn_222 rfl ?_
                refine x_eV (c_X3_made l D mw) dX3_turn_223 lk_X3_102 im_X3_made se_X3_made cd_X3_made (by decide) mw.k vcX3 rfl (by decide) rfl (by first | decide | simp [Value.category]) ?_
                exact x_zi dX3_turn_226 ⟨by rw [if_pos c5, clz (show vj < 64 by omega), if_pos hcan, chA, if_neg (by omega), tnI_f (by decide), h4], rfl, rfl, rfl, by rw [if_pos ⟨c5, by rw [clz (show vj < 64 by omega)]; exact hcan, by omega⟩, clz (show vj < 64 by omega)]; rfl, by rw [if_pos ⟨c5, by rw [clz (show vj < 64 by omega)]; exact hcan, by omega⟩, clz (show vj < 64 by omega)], rfl⟩
              · exact absurd (by rw [tnI_f (by decide), hr]; exact nI_le (by omega) (by omega)) c120
            | succ t ih =>
              intro k hk
              refine x_iload dX3_turn_114 rfl ?_
              refine x_aload_n dX3_turn_116 rfl ?_
              refine x_geti dX3_turn_117 fl_X3_79 mw.k rfl ?_
              refine x_icmp_ge 222 dX3_turn_120 (by decide) (fun c120 => ?_) (fun c120 => ?_)
              · rw [tnI_f (by decide), hr] at c120; exact absurd c120 (nI_ge (by omega) (by omega))
              · obtain ⟨hn1, hn2, hn3, hn4⟩ := hnd k (by omega)
                refine x_aload_n dX3_turn_123 rfl ?_
                refine x_iload_n dX3_turn_124 rfl ?_
                refine x_aload_n dX3_turn_125 rfl ?_
                refine x_getq dX3_turn_126 fl_X3_30 mw.k mw.r14 rfl ?_
                refine x_iload dX3_turn_129 rfl ?_
                refine x_iald (k) dX3_turn_131 mw.k14 mw.n14 rfl (by omega) (by decide) ?_
                rw [tnI_o (by omega) (by omega) (by omega) (by omega) (by omega), hn1]
                refine x_aload_n dX3_turn_132 rfl ?_
                refine x_getq dX3_turn_133 fl_X3_33 mw.k mw.r15 rfl ?_
                refine x_iload dX3_turn_136 rfl ?_
                refine x_iald (k) dX3_turn_138 mw.k15 mw.n15 rfl (by omega) (by decide) ?_
                rw [tnI_o (r := m + 8) (by omega) (by omega) (by omega) (by omega) (by omega), hn3]
                refine x_eV (c_X3_item l D mw (v := vj) (n := nd k) (c := cd k) (by omega) hn2 hn4) dX3_turn_139 lk_X3_91 im_X3_item se_X3_item cd_X3_item (by decide) mw.k vcX3 rfl (by decide) rfl (by first | decide | simp [Value.category]) ?_
                rw [tnJ_i hvj hnd2 (by omega) hn2 hn4]
                refine x_aload_n dX3_turn_142 rfl ?_
                refine x_getq dX3_turn_143 fl_X3_39 mw.k mw.r17 rfl ?_
                refine x_iload dX3_turn_146 rfl ?_
                refine x_lald (k) dX3_turn_148 mw.k17 mw.n17 rfl (by omega) (by decide) ?_
                rw [tnJ_o (r := m + 10) (by omega) (by omega)]
                refine x_lcmp dX3_turn_149 ?_
                refine x_if_eq 216 dX3_turn_150 (by decide) (fun c150 => ?_) (fun c150 => ?_)
                · rw [cmp_eq] at c150
                  have eJ : tnJ J m vj nv nd cd (k + 1) = tnJ J m vj nv nd cd k := by simp only [tnJ, if_pos c150]
                  have eL : tnL J m vj s nd cd (k + 1) = tnL J m vj s nd cd k := by simp only [tnL, if_pos c150]
                  have eI : tnI I J m vj nv s nd cd (k + 1) = tnI I J m vj nv s nd cd k := by simp only [tnI, if_pos c150]
                  refine x_iinc dX3_turn_216 rfl rfl (by decide) rfl ?_
                  refine x_goto 114 dX3_turn_219 (by decide) ?_
                  exact x_eql (by show [_, _, _, Value.int _, Value.int _, _] = _; simp [eL, nI_1]) (x_eqh (by rw [eI]; try rfl) (by rw [eJ]) (ih (k + 1) (by omega)))
                · rw [cmp_eq] at c150
                  have eJ : tnJ J m vj nv nd cd (k + 1) = setm (tnJ J m vj nv nd cd k) m nv (nd k) (cd k) (J (m + 10) k) := by simp only [tnJ, if_neg c150]
                  have eL : tnL J m vj s nd cd (k + 1) = nI (nd k / s) := by simp only [tnL, if_neg c150]
                  refine x_aload_n dX3_turn_153 rfl ?_
                  refine x_aload_n dX3_turn_154 rfl ?_
                  refine x_geti dX3_turn_155 fl_X3_51 mw.k rfl ?_
                  refine x_aload_n dX3_turn_158 rfl ?_
                  refine x_getq dX3_turn_159 fl_X3_30 mw.k mw.r14 rfl ?_
                  refine x_iload dX3_turn_162 rfl ?_
                  refine x_iald (k) dX3_turn_164 mw.k14 mw.n14 rfl (by omega) (by decide) ?_
                  rw [tnI_o (r := m + 7) (by omega) (by omega) (by omega) (by omega) (by omega), hn1, tnI_f (by decide), h4]
                  refine x_aload_n dX3_turn_165 rfl ?_
                  refine x_getq dX3_turn_166 fl_X3_33 mw.k mw.r15 rfl ?_
                  refine x_iload dX3_turn_169 rfl ?_
                  refine x_iald (k) dX3_turn_171 mw.k15 mw.n15 rfl (by omega) (by decide) ?_
                  rw [tnI_o (r := m + 8) (by omega) (by omega) (by omega) (by omega) (by omega), hn3]
                  refine x_aload_n dX3_turn_172 rfl ?_
                  refine x_getq dX3_turn_173 fl_X3_39 mw.k mw.r17 rfl ?_
                  refine x_iload dX3_turn_176 rfl ?_
                  refine x_lald (k) dX3_turn_178 mw.k17 mw.n17 rfl (by omega) (by decide) ?_
                  rw [tnJ_o (r := m + 10) (by omega) (by omega)]
                  refine x_eW (c_X3_sets l D mw (v := nv) (n := nd k) (c := cd k) (by omega) hn2 hn4) dX3_turn_179 lk_X3_95 im_X3_sets se_X3_sets cd_X3_sets (by decide) mw.k vcX3 rfl (by decide) rfl (by first | decide | simp [Value.category]) ?_
                  refine x_aload_n dX3_turn_182 rfl ?_
                  refine x_getq dX3_turn_183 fl_X3_30 mw.k mw.r14 rfl ?_
                  refine x_iload dX3_turn_186 rfl ?_
                  refine x_iald (k) dX3_turn_188 mw.k14 mw.n14 rfl (by omega) (by decide) ?_
                  rw [tnI_o (r := m + 7) (by omega) (by omega) (by omega) (by omega) (by omega), hn1]
                  refine x_aload_n dX3_turn_189 rfl ?_
                  refine x_geti dX3_turn_190 fl_X3_62 mw.k rfl ?_
                  refine x_idiv dX3_turn_193 (by rw [tnI_f (by decide), h1]; exact nI_ne0 hs0 (by omega)) ?_
                  refine x_iload_n dX3_turn_194 rfl ?_
                  refine x_icmp_eq 216 dX3_turn_195 (by decide) (fun c195 => ?_) (fun c195 => ?_)
                  · rw [tnI_f (by decide), h1, idiv_n hn2 hs0 hs] at c195
                    have eI : tnI I J m vj nv s nd cd (k + 1) = tnI I J m vj nv s nd cd k := by simp only [tnI, if_neg c150, if_pos c195]
                    rw [c195] at eL
                    refine x_iinc dX3_turn_216 rfl rfl (by decide) rfl ?_
                    refine x_goto 114 dX3_turn_219 (by decide) ?_
                    exact x_eql (by show [_, _, _, Value.int _, Value.int _, _] = _; simp [eL, nI_1]) (x_eqh (by rw [eI]; try rfl) (by rw [eJ]) (ih (k + 1) (by omega)))
                  · rw [tnI_f (by decide), h1, idiv_n hn2 hs0 hs] at c195
                    have eI : tnI I J m vj nv s nd cd (k + 1) = frI (tnI I J m vj nv s nd cd k) m nv (nd k / s) := by simp only [tnI, if_neg c150, if_neg c195]
                    refine x_aload_n dX3_turn_198 rfl ?_
                    refine x_getq dX3_turn_199 fl_X3_30 mw.k mw.r14 rfl ?_
                    refine x_iload dX3_turn_202 rfl ?_
                    refine x_iald (k) dX3_turn_204 mw.k14 mw.n14 rfl (by omega) (by decide) ?_
                    rw [tnI_o (r := m + 7) (by omega) (by omega) (by omega) (by omega) (by omega), hn1]
                    refine x_aload_n dX3_turn_205 rfl ?_
                    refine x_geti dX3_turn_206 fl_X3_62 mw.k rfl ?_
                    refine x_idiv dX3_turn_209 (by rw [tnI_f (by decide), h1]; exact nI_ne0 hs0 (by omega)) ?_
                    rw [tnI_f (by decide), h1, idiv_n hn2 hs0 hs]
                    refine x_istore_n dX3_turn_210 (by decide) rfl ?_
                    refine x_aload_n dX3_turn_211 rfl ?_
                    refine x_iload_n dX3_turn_212 rfl ?_
                    refine x_eW (c_X3_fresh l D mw (nv := nv) (k := nd k / s) (by rw [tnI_f (by decide)]; exact h4) (by omega) (by have := Nat.div_le_self (nd k) s; omega)) dX3_turn_213 lk_X3_99 im_X3_fresh se_X3_fresh cd_X3_fresh (by decide) mw.k vcX3 rfl (by decide) rfl (by first | decide | simp [Value.category]) ?_
                    refine x_iinc dX3_turn_216 rfl rfl (by decide) rfl ?_
                    refine x_goto 114 dX3_turn_219 (by decide) ?_
                    exact x_eql (by show [_, _, _, Value.int _, Value.int _, _] = _; simp [eL, nI_1]) (x_eqh (by rw [eI]; try rfl) (by rw [eJ]) (ih (k + 1) (by omega)))
          refine x_aload_n dX3_turn_103 rfl ?_
          refine x_iload_n dX3_turn_104 rfl ?_
          refine x_eW (c_X3_copies l D mw h4 hvj (by omega)) dX3_turn_105 lk_X3_87 im_X3_copies se_X3_copies cd_X3_copies (by decide) mw.k vcX3 rfl (by decide) rfl (by first | decide | simp [Value.category]) ?_
          refine x_ldc dX3_turn_108 ki_X3_68 ?_
          refine x_istore_n dX3_turn_110 (by decide) rfl ?_
          refine x_iconst (v := (0)) dX3_turn_111 (by decide +kernel) ?_
          refine x_istore dX3_turn_112 (by decide) rfl ?_
          exact x_eql (by show [_, _, Value.int _, Value.int _, Value.int _, _] = _; rw [bI_t hcan]; rfl) (loop2 rm 0 rfl)
        · have h60 : nv = 60 := by rw [h4] at c97; exact (nI_eq (by omega) (by omega)).mp c97
          refine x_bipush (v := (-3)) dX3_turn_100 (by decide +kernel) ?_
          exact x_zi dX3_turn_102 ⟨by rw [if_pos c5, clz (show vj < 64 by omega), if_pos c85, chA, if_pos h60], rfl, rfl, rfl, by rw [if_neg (fun z => z.2.2 h60)], by rw [if_neg (fun z => z.2.2 h60)], rfl⟩
      · rw [bI_e0] at c85
        refine x_bipush (v := (-2)) dX3_turn_88 (by decide +kernel) ?_
        exact x_zi dX3_turn_90 ⟨by rw [if_pos c5, clz (show vj < 64 by omega), if_neg c85], rfl, rfl, rfl, by rw [if_neg (fun z => c85 (by rw [clz (show vj < 64 by omega)] at z; exact z.2.1))], by rw [if_neg (fun z => c85 (by rw [clz (show vj < 64 by omega)] at z; exact z.2.1))], rfl⟩
    have loop1 : ∀ (t k : Nat), t + k = rm → XW l D (fun _ => True) RX3 "turn" cX3_turn 6 2 0 0 K sz (Zx (some (.int (if pV I m nv (nI vj) then (if (I m 12 = 1 ∧ anyP (fun k => !okR J m (nI vj).toNatClampNeg nd cd k) rm = false) then chA nv else -2) else -1))) K N R (if pV I m nv (nI vj) ∧ (I m 12 = 1 ∧ anyP (fun k => !okR J m (nI vj).toNatClampNeg nd cd k) rm = false) ∧ ¬ nv = 60 then mdI (tnI I J m (nI vj).toNatClampNeg nv s nd cd rm) m else I) (if pV I m nv (nI vj) ∧ (I m 12 = 1 ∧ anyP (fun k => !okR J m (nI vj).toNatClampNeg nd cd k) rm = false) ∧ ¬ nv = 60 then tnJ J m (nI vj).toNatClampNeg nv nd cd rm else J) sz) 17 [.ref m, .int (nI vj), .int (bI (I m 12 = 1 ∧ anyP (fun k => !okR J m vj nd cd k) k = false)), .int (nI k), .null, .null] [] K N R (I) (J) sz 0 0 := by
      intro t
      induction t with
      | zero =>
        intro k hk
        refine x_iload_n dX3_turn_17 rfl ?_
        refine x_aload_n dX3_turn_18 rfl ?_
        refine x_geti dX3_turn_19 fl_X3_79 mw.k rfl ?_
        refine x_icmp_ge 84 dX3_turn_22 (by decide) (fun c22 => ?_) (fun c22 => ?_)
        · obtain rfl : k = rm := by omega
          refine x_drop 3 ?_
          exact x_eql rfl after
        · exact absurd (by rw [hr]; exact nI_le (by omega) (by omega)) c22
      | succ t ih =>
        intro k hk
        refine x_iload_n dX3_turn_17 rfl ?_
        refine x_aload_n dX3_turn_18 rfl ?_
        refine x_geti dX3_turn_19 fl_X3_79 mw.k rfl ?_
        refine x_icmp_ge 84 dX3_turn_22 (by decide) (fun c22 => ?_) (fun c22 => ?_)
        · rw [hr] at c22; exact absurd c22 (nI_ge (by omega) (by omega))
        · refine x_iload_n dX3_turn_25 rfl ?_
          refine x_if_eq 84 dX3_turn_26 (by decide) (fun c26 => ?_) (fun c26 => ?_)
          · rw [bI_e0] at c26
            refine x_drop 3 ?_
            refine x_eql (L' := [.ref m, .int (nI vj), .int (bI (I m 12 = 1 ∧ anyP (fun k => !okR J m vj nd cd k) rm = false)), .null, .null, .null]) ?_ after
            show [_, _, Value.int _, _, _, _] = _
            rw [bI_f c26, bI_f (fun z => c26 ⟨z.1, anyP_f (fun i hi => by
              cases hq : (!okR J m vj nd cd i) with
              | false => rfl
              | true => exact absurd (anyP_t (p := fun k => !okR J m vj nd cd k) (n := rm) (i := i) (by omega) hq) (by rw [z.2]; decide))⟩)]
          · rw [bI_n0] at c26
            obtain ⟨hn1, hn2, hn3, hn4⟩ := hnd k (by omega)
            refine x_aload_n dX3_turn_29 rfl ?_
            refine x_iload_n dX3_turn_30 rfl ?_
            refine x_aload_n dX3_turn_31 rfl ?_
            refine x_getq dX3_turn_32 fl_X3_30 mw.k mw.r14 rfl ?_
            refine x_iload_n dX3_turn_35 rfl ?_
            refine x_iald (k) dX3_turn_36 mw.k14 mw.n14 rfl (by omega) (by decide) ?_
            rw [hn1]
            refine x_aload_n dX3_turn_37 rfl ?_
            refine x_getq dX3_turn_38 fl_X3_33 mw.k mw.r15 rfl ?_
            refine x_iload_n dX3_turn_41 rfl ?_
            refine x_iald (k) dX3_turn_42 mw.k15 mw.n15 rfl (by omega) (by decide) ?_
            rw [hn3]
            refine x_eV (c_X3_item l D mw (v := vj) (n := nd k) (c := cd k) (by omega) hn2 hn4) dX3_turn_43 lk_X3_91 im_X3_item se_X3_item cd_X3_item (by decide) mw.k vcX3 rfl (by decide) rfl (by first | decide | simp [Value.category]) ?_
            refine x_lstore dX3_turn_46 (by decide) rfl ?_
            refine x_lload dX3_turn_48 rfl ?_
            refine x_aload_n dX3_turn_50 rfl ?_
            refine x_getq dX3_turn_51 fl_X3_36 mw.k mw.r16 rfl ?_
            refine x_iload_n dX3_turn_54 rfl ?_
            refine x_lald (k) dX3_turn_55 mw.k16 mw.n16 rfl (by omega) (by decide) ?_
            refine x_lcmp dX3_turn_56 ?_
            refine x_if_eq 72 dX3_turn_57 (by decide) (fun c57 => ?_) (fun c57 => ?_)
            · rw [cmp_eq] at c57
              have e1 : (!okR J m vj nd cd k) = false := by simp [okR, c57]
              have hst : bI (I m 12 = 1 ∧ anyP (fun k => !okR J m vj nd cd k) (k + 1) = false) = 1 := by rw [bI_t ⟨c26.1, by simp only [anyP, e1, Bool.or_false]; exact c26.2⟩]
              refine x_iconst (v := (1)) dX3_turn_72 (by decide +kernel) ?_
              refine x_goto 77 dX3_turn_73 (by decide) ?_
              refine x_istore_n dX3_turn_77 (by decide) rfl ?_
              refine x_iinc dX3_turn_78 rfl rfl (by decide) rfl ?_
              refine x_goto 17 dX3_turn_81 (by decide) ?_
              refine x_drop 4 ?_
              exact x_eql (by show [_, _, Value.int _, Value.int _, _, _] = _; rw [hst, ← nI_1]; rfl) (ih (k + 1) (by omega))
            · rw [cmp_eq] at c57
              refine x_lload dX3_turn_60 rfl ?_
              refine x_aload_n dX3_turn_62 rfl ?_
              refine x_getq dX3_turn_63 fl_X3_39 mw.k mw.r17 rfl ?_
              refine x_iload_n dX3_turn_66 rfl ?_
              refine x_lald (k) dX3_turn_67 mw.k17 mw.n17 rfl (by omega) (by decide) ?_
              refine x_lcmp dX3_turn_68 ?_
              refine x_if_ne 76 dX3_turn_69 (by decide) (fun c69 => ?_) (fun c69 => ?_)
              · rw [cmp_eq] at c69
                have e1 : (!okR J m vj nd cd k) = true := by simp [okR, c57, c69]
                have hst : bI (I m 12 = 1 ∧ anyP (fun k => !okR J m vj nd cd k) (k + 1) = false) = 0 := by rw [bI_f (fun z => by simp only [anyP, e1, Bool.or_true] at z; exact absurd z.2 (by decide))]
                refine x_iconst (v := (0)) dX3_turn_76 (by decide +kernel) ?_
                refine x_istore_n dX3_turn_77 (by decide) rfl ?_
                refine x_iinc dX3_turn_78 rfl rfl (by decide) rfl ?_
                refine x_goto 17 dX3_turn_81 (by decide) ?_
                refine x_drop 4 ?_
                exact x_eql (by show [_, _, Value.int _, Value.int _, _, _] = _; rw [hst, ← nI_1]; rfl) (ih (k + 1) (by omega))
              · rw [cmp_eq] at c69
                have e1 : (!okR J m vj nd cd k) = false := by simp [okR, c69]
                have hst : bI (I m 12 = 1 ∧ anyP (fun k => !okR J m vj nd cd k) (k + 1) = false) = 1 := by rw [bI_t ⟨c26.1, by simp only [anyP, e1, Bool.or_false]; exact c26.2⟩]
                refine x_iconst (v := (1)) dX3_turn_72 (by decide +kernel) ?_
                refine x_goto 77 dX3_turn_73 (by decide) ?_
                refine x_istore_n dX3_turn_77 (by decide) rfl ?_
                refine x_iinc dX3_turn_78 rfl rfl (by decide) rfl ?_
                refine x_goto 17 dX3_turn_81 (by decide) ?_
                refine x_drop 4 ?_
                exact x_eql (by show [_, _, Value.int _, Value.int _, _, _] = _; rw [hst, ← nI_1]; rfl) (ih (k + 1) (by omega))
    refine x_aload_n dX3_turn_10 rfl ?_
    refine x_geti dX3_turn_11 fl_X3_75 mw.k rfl ?_
    refine x_istore_n dX3_turn_14 (by decide) rfl ?_
    refine x_iconst (v := (0)) dX3_turn_15 (by decide +kernel) ?_
    refine x_istore_n dX3_turn_16 (by decide) rfl ?_
    exact x_eql (by show [_, _, Value.int _, Value.int _, _, _] = _; rw [show bI (I m 12 = 1 ∧ anyP (fun k => !okR J m vj nd cd k) 0 = false) = I m 12 from by rcases h12 with h | h <;> rw [h] <;> simp [bI, anyP]]; rfl) (loop1 rm 0 rfl)
  · rw [bI_e0] at c5
    refine x_iconst (v := (-1)) dX3_turn_8 (by decide +kernel) ?_
    exact x_zi dX3_turn_9 ⟨by rw [if_neg c5], rfl, rfl, rfl, by rw [if_neg (fun z => c5 z.1)], by rw [if_neg (fun z => c5 z.1)], rfl⟩
