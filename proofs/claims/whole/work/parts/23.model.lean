/-! The reference: join -/
def uC (J : Nat → Nat → Int64) (m nn vb va vc : Nat) : Nat → Nat → Bool := fun n p => decide (cfl J m vb va vc n (cdp nn p))
def cfL (J : Nat → Nat → Int64) (m nn vb va vc : Nat) : List (Nat × Nat) := lstP (nodL (uC J m nn vb va vc) nn) nn
def cfI (I : Nat → Nat → Int32) (m : Nat) (Lq : List (Nat × Nat)) : Nat → Nat → Int32 := va_up (va_up I (m + 11) (wrL (fun q => nI q.1) Lq (I (m + 11)))) (m + 12) (wrL (fun q => tN q.2) Lq (I (m + 12)))
theorem cfI_nil {I : Nat → Nat → Int32} {m : Nat} : cfI I m [] = I := by rw [cfI, wrL_nil, wrL_nil, va_up_id, va_up_id]
theorem cfI_o {I : Nat → Nat → Int32} {m r : Nat} {Lq : List (Nat × Nat)} (h1 : r ≠ m + 11) (h2 : r ≠ m + 12) : cfI I m Lq r = I r := by unfold cfI; rw [va_up_ne _ _ h2, va_up_ne _ _ h1]
theorem cfI_step {I : Nat → Nat → Int32} {m n c : Nat} {Lq : List (Nat × Nat)} {F : Nat → Int32} (hF : F = va_up (cfI I m Lq (m + 12)) Lq.length (tN c)) : va_up (va_up (cfI I m Lq) (m + 11) (va_up (cfI I m Lq (m + 11)) Lq.length (nI n))) (m + 12) F = cfI I m (Lq ++ [(n, c)]) := by
  subst hF
  have e7 : cfI I m Lq (m + 11) = wrL (fun q => nI q.1) Lq (I (m + 11)) := by simp [cfI, va_up]
  have e8 : cfI I m Lq (m + 12) = wrL (fun q => tN q.2) Lq (I (m + 12)) := by simp [cfI, va_up]
  rw [e7, e8, show nI n = (fun q : Nat × Nat => nI q.1) (n, c) from rfl, show tN c = (fun q : Nat × Nat => tN q.2) (n, c) from rfl, wrL_add, wrL_add]
  funext r
  by_cases h7 : r = m + 11
  · subst h7; simp [cfI, va_up]
  · by_cases h8 : r = m + 12
    · subst h8; simp [cfI, va_up]
    · simp [cfI, va_up, h7, h8]
def jP (J : Nat → Nat → Int64) (m nn vb va vc nv n : Nat) (X : Nat → Nat → Int64) : Nat → Nat → Nat → Int64
  | 0 => X
  | p + 1 => setm (jP J m nn vb va vc nv n X p) m nv n (cdp nn p) (jnd J m vb va vc n (cdp nn p))
def jJ (J : Nat → Nat → Int64) (m nn vb va vc nv : Nat) : Nat → Nat → Nat → Int64
  | 0 => cpJ J m va nv 64
  | n + 1 => jP J m nn vb va vc nv n (jJ J m nn vb va vc nv n) (nn + 2)
def jC (I : Nat → Nat → Int32) (Jq : Nat → Nat → Int64) (m nn s vb va vc nv : Nat) : Nat → Nat → Nat → Int32
  | 0 => cpI2 I m va nv
  | k + 1 =>
    let A := jC I Jq m nn s vb va vc nv k
    let x := I (m + 3) (64 * vb + k)
    let y := I (m + 3) (64 * va + k)
    let z := I (m + 3) (64 * vc + k)
    if y = x then va_up A (m + 3) (va_up (A (m + 3)) (64 * nv + k) z)
    else if z = x ∨ z = y then A
    else if lkB Jq m nn nv va s k = true then va_up A (m + 3) (va_up (A (m + 3)) (64 * nv + k) y)
    else if lkB Jq m nn nv vc s k = true then va_up A (m + 3) (va_up (A (m + 3)) (64 * nv + k) z)
    else if lkB Jq m nn nv vb s k = true then va_up A (m + 3) (va_up (A (m + 3)) (64 * nv + k) x)
    else frI A m nv k
section
variable {I : Nat → Nat → Int32} {J Jq : Nat → Nat → Int64} {m nn s vb va vc nv : Nat}
theorem itm_cp2 {v n c : Nat} (ha : va < nv) (hv : v < nv) (hn : n < 64) (hc : c < 66) : itm (cpJ J m va nv 64) m v n c = itm J m v n c := by
  unfold itm
  by_cases h : c < 64
  · rw [if_pos h, if_pos h, cpJ_1, pk_cpy_out (by omega)]
  · rw [if_neg h, if_neg h, cpJ_2, pk_cpy_out (by omega), pk_cpy_out (by omega)]
theorem jP_i {X : Nat → Nat → Int64} {v n n' c p : Nat} (hnn : nn ≤ 64) (hv : v < nv) (hn : n < 64) (hn' : n' < 64) (hc : c < 66) (hp : p ≤ nn + 2) : itm (jP J m nn vb va vc nv n' X p) m v n c = itm X m v n c := by
  induction p with
  | zero => rfl
  | succ p ih => simp only [jP]; rw [setm_i hv hn hn' hc (cdp_lt hnn (by omega))]; exact ih (by omega)
theorem jJ_i {v n c q : Nat} (hnn : nn ≤ 64) (ha : va < nv) (hv : v < nv) (hn : n < 64) (hc : c < 66) (hq : q ≤ nn) : itm (jJ J m nn vb va vc nv q) m v n c = itm J m v n c := by
  induction q with
  | zero => exact itm_cp2 ha hv hn hc
  | succ q ih => simp only [jJ]; rw [jP_i hnn hv hn (by omega) hc (Nat.le_refl _)]; exact ih (by omega)
theorem jnd_congr {J' : Nat → Nat → Int64} {n c : Nat} (h : ∀ v, v = vb ∨ v = va ∨ v = vc → itm J' m v n c = itm J m v n c) : jnd J' m vb va vc n c = jnd J m vb va vc n c := by
  unfold jnd; rw [h vb (Or.inl rfl), h va (Or.inr (Or.inl rfl)), h vc (Or.inr (Or.inr rfl))]
theorem jC_o {k r : Nat} (h0 : r ≠ m) (h3 : r ≠ m + 3) (h4 : r ≠ m + 4) (h5 : r ≠ m + 5) (h6 : r ≠ m + 6) : jC I Jq m nn s vb va vc nv k r = I r := by
  induction k with
  | zero => exact cpI2_o h3 h4 h5 h6
  | succ k ih =>
    simp only [jC]
    repeat' split
    all_goals first | exact ih | (rw [va_up_ne _ _ h3]; exact ih) | (rw [frI_o h0 h3]; exact ih)
theorem jC_f {k j : Nat} (hj : j ≠ 5) : jC I Jq m nn s vb va vc nv k m j = I m j := by
  induction k with
  | zero => simp [jC, cpI2_m]
  | succ k ih =>
    simp only [jC]
    repeat' split
    all_goals first | exact ih | (rw [va_up_ne _ _ (by omega)]; exact ih) | (rw [frI_m, va_up_ne _ _ hj]; exact ih)
theorem jC_3 {k v i : Nat} (hv : v < nv) (hi : i < 64) (hk : k ≤ 64) : jC I Jq m nn s vb va vc nv k (m + 3) (64 * v + i) = I (m + 3) (64 * v + i) := by
  induction k with
  | zero =>
    show cpI2 I m va nv (m + 3) (64 * v + i) = _
    rw [show cpI2 I m va nv (m + 3) = va_cpy (I (m + 3)) (I (m + 3)) (64 * va) (64 * nv) 64 from by simp [cpI2, cpI, va_up], pk_cpy_out (by omega)]
  | succ k ih =>
    have ih := ih (by omega)
    simp only [jC]
    repeat' split
    all_goals first | exact ih | (rw [va_up_self, va_up_ne _ _ (by omega)]; exact ih) | (unfold frI; rw [va_up_ne _ _ (by omega), va_up_self, va_up_ne _ _ (by omega)]; exact ih)
end
set_option maxHeartbeats 4000000 in
theorem c_X3_join (l : Launch) (D : va_G) {K N : Nat → Nat} {R : Nat → Nat → Nat} {I : Nat → Nat → Int32} {J : Nat → Nat → Int64} {sz : Nat} {m : Nat} (mw : MW m K N R) {nv nn nc s : Nat} (h4 : I m 4 = nI nv) (hnv : nv ≤ 60) (h0 : I m 0 = nI nn) (hnn : nn ≤ 64) (h2 : I m 2 = nI nc) (hnc : nc ≤ 64) (h1 : I m 1 = nI s) (hs : s ≤ 64) (qb qv qc : Int32) : XM l D yX3_join cX3_join 9 (some .int) 2 0 0 [.ref m, .int qb, .int qv, .int qc] K N R I J sz (Zx (some (.int (if pV I m nv qb ∧ pV I m nv qv ∧ pV I m nv qc then (if cfL J m nn qb.toNatClampNeg qv.toNatClampNeg qc.toNatClampNeg = [] then chA nv else -10 - nI (cfL J m nn qb.toNatClampNeg qv.toNatClampNeg qc.toNatClampNeg).length) else -1))) K N R (if pV I m nv qb ∧ pV I m nv qv ∧ pV I m nv qc then (if cfL J m nn qb.toNatClampNeg qv.toNatClampNeg qc.toNatClampNeg = [] then (if nv = 60 then I else mdI (jC I (jJ J m nn qb.toNatClampNeg qv.toNatClampNeg qc.toNatClampNeg nv nn) m nn s qb.toNatClampNeg qv.toNatClampNeg qc.toNatClampNeg nv nc) m) else va_up (cfI I m (cfL J m nn qb.toNatClampNeg qv.toNatClampNeg qc.toNatClampNeg)) m (va_up (I m) 18 (nI (cfL J m nn qb.toNatClampNeg qv.toNatClampNeg qc.toNatClampNeg).length))) else I) (if pV I m nv qb ∧ pV I m nv qv ∧ pV I m nv qc then (if cfL J m nn qb.toNatClampNeg qv.toNatClampNeg qc.toNatClampNeg = [] then (if nv = 60 then J else jJ J m nn qb.toNatClampNeg qv.toNatClampNeg qc.toNatClampNeg nv nn) else J) else J) sz) := by
  refine XM.of (own := RX3) (nm := "join") (by decide +kernel) rfl rfl (by simp [xla, Value.category]) [.ref m, .int qb, .int qv, .int qc, .null, .null, .null, .null, .null] rfl (Zx.rt ⟨_, rfl⟩) ?_
  refine x_aload_n dX3_join_0 rfl ?_
  refine x_iload_n dX3_join_1 rfl ?_
  refine x_eV (c_X3_isVersion l D mw h4 hnv _) dX3_join_2 lk_X3_106 im_X3_isVersion se_X3_isVersion cd_X3_isVersion (by decide) mw.k vcX3 rfl (by decide) rfl (by first | decide | simp [Value.category]) ?_
  refine x_if_eq 24 dX3_join_5 (by decide) (fun c5 => ?_) (fun c5 => ?_)
  · rw [bI_e0] at c5
    refine x_iconst (v := (-1)) dX3_join_24 (by decide +kernel) ?_
    exact x_zi dX3_join_25 ⟨by rw [if_neg (by rintro ⟨z1, z2, z3⟩; first | exact c5 z1 | exact c13 z2 | exact c21 z3)], rfl, rfl, rfl, by rw [if_neg (by rintro ⟨z1, z2, z3⟩; first | exact c5 z1 | exact c13 z2 | exact c21 z3)], by rw [if_neg (by rintro ⟨z1, z2, z3⟩; first | exact c5 z1 | exact c13 z2 | exact c21 z3)], rfl⟩
  · rw [bI_n0] at c5
    obtain ⟨bj, hbj, rfl⟩ := pN_ex c5.1
    refine x_aload_n dX3_join_8 rfl ?_
    refine x_iload_n dX3_join_9 rfl ?_
    refine x_eV (c_X3_isVersion l D mw h4 hnv _) dX3_join_10 lk_X3_106 im_X3_isVersion se_X3_isVersion cd_X3_isVersion (by decide) mw.k vcX3 rfl (by decide) rfl (by first | decide | simp [Value.category]) ?_
    refine x_if_eq 24 dX3_join_13 (by decide) (fun c13 => ?_) (fun c13 => ?_)
    · rw [bI_e0] at c13
      refine x_iconst (v := (-1)) dX3_join_24 (by decide +kernel) ?_
      exact x_zi dX3_join_25 ⟨by rw [if_neg (by rintro ⟨z1, z2, z3⟩; first | exact c5 z1 | exact c13 z2 | exact c21 z3)], rfl, rfl, rfl, by rw [if_neg (by rintro ⟨z1, z2, z3⟩; first | exact c5 z1 | exact c13 z2 | exact c21 z3)], by rw [if_neg (by rintro ⟨z1, z2, z3⟩; first | exact c5 z1 | exact c13 z2 | exact c21 z3)], rfl⟩
    · rw [bI_n0] at c13
      obtain ⟨vj, hvj, rfl⟩ := pN_ex c13.1
      refine x_aload_n dX3_join_16 rfl ?_
      refine x_iload_n dX3_join_17 rfl ?_
      refine x_eV (c_X3_isVersion l D mw h4 hnv _) dX3_join_18 lk_X3_106 im_X3_isVersion se_X3_isVersion cd_X3_isVersion (by decide) mw.k vcX3 rfl (by decide) rfl (by first | decide | simp [Value.category]) ?_
      refine x_if_ne 26 dX3_join_21 (by decide) (fun c21 => ?_) (fun c21 => ?_)
      · rw [bI_n0] at c21
        obtain ⟨cj, hcj, rfl⟩ := pN_ex c21.1
        have hG : pV I m nv (nI bj) ∧ pV I m nv (nI vj) ∧ pV I m nv (nI cj) := ⟨c5, c13, c21⟩
        have after : XW l D (fun _ => True) RX3 "join" cX3_join 9 2 0 0 K sz (Zx (some (.int (if pV I m nv (nI bj) ∧ pV I m nv (nI vj) ∧ pV I m nv (nI cj) then (if cfL J m nn (nI bj).toNatClampNeg (nI vj).toNatClampNeg (nI cj).toNatClampNeg = [] then chA nv else -10 - nI (cfL J m nn (nI bj).toNatClampNeg (nI vj).toNatClampNeg (nI cj).toNatClampNeg).length) else -1))) K N R (if pV I m nv (nI bj) ∧ pV I m nv (nI vj) ∧ pV I m nv (nI cj) then (if cfL J m nn (nI bj).toNatClampNeg (nI vj).toNatClampNeg (nI cj).toNatClampNeg = [] then (if nv = 60 then I else mdI (jC I (jJ J m nn (nI bj).toNatClampNeg (nI vj).toNatClampNeg (nI cj).toNatClampNeg nv nn) m nn s (nI bj).toNatClampNeg (nI vj).toNatClampNeg (nI cj).toNatClampNeg nv nc) m) else va_up (cfI I m (cfL J m nn (nI bj).toNatClampNeg (nI vj).toNatClampNeg (nI cj).toNatClampNeg)) m (va_up (I m) 18 (nI (cfL J m nn (nI bj).toNatClampNeg (nI vj).toNatClampNeg (nI cj).toNatClampNeg).length))) else I) (if pV I m nv (nI bj) ∧ pV I m nv (nI vj) ∧ pV I m nv (nI cj) then (if cfL J m nn (nI bj).toNatClampNeg (nI vj).toNatClampNeg (nI cj).toNatClampNeg = [] then (if nv = 60 then J else jJ J m nn (nI bj).toNatClampNeg (nI vj).toNatClampNeg (nI cj).toNatClampNeg nv nn) else J) else J) sz) 103 [.ref m, .int (nI bj), .int (nI vj), .int (nI cj), .int (nI (cfL J m nn bj vj cj).length), .null, .null, .null, .null] [] K N R (cfI I m (cfL J m nn bj vj cj)) (J) sz 0 0 := by
          have hlen : (cfL J m nn bj vj cj).length ≤ 4224 := Nat.le_trans (lstP_len (fun f => nodL_len) nn) (Nat.le_trans (Nat.mul_le_mul hnn (show nn + 2 ≤ 66 by omega)) (by decide))
          refine x_iload dX3_join_103 rfl ?_
          refine x_if_le 120 dX3_join_105 (by decide) (fun c105 => ?_) (fun c105 => ?_)
          · have hnil : cfL J m nn bj vj cj = [] := by
              rcases Nat.eq_zero_or_pos (cfL J m nn bj vj cj).length with z | z
              · exact List.eq_nil_of_length_eq_zero z
              · exact absurd c105 (nI_nle z (by omega))
            rw [hnil, cfI_nil]
            refine x_aload_n dX3_join_120 rfl ?_
            refine x_geti dX3_join_121 fl_X3_51 mw.k rfl ?_
            refine x_bipush (v := (nI 60)) dX3_join_124 (by decide +kernel) ?_
            refine x_icmp_ne 132 dX3_join_126 (by decide) (fun c126 => ?_) (fun c126 => ?_)
            · have h60 : nv < 60 := by
                rcases Nat.lt_or_ge nv 60 with z | z
                · exact z
                · exact absurd (by rw [h4, show nv = 60 by omega]) c126
              have ch : ∀ (t k : Nat), t + k = nc → XW l D (fun _ => True) RX3 "join" cX3_join 9 2 0 0 K sz (Zx (some (.int (if pV I m nv (nI bj) ∧ pV I m nv (nI vj) ∧ pV I m nv (nI cj) then (if cfL J m nn (nI bj).toNatClampNeg (nI vj).toNatClampNeg (nI cj).toNatClampNeg = [] then chA nv else -10 - nI (cfL J m nn (nI bj).toNatClampNeg (nI vj).toNatClampNeg (nI cj).toNatClampNeg).length) else -1))) K N R (if pV I m nv (nI bj) ∧ pV I m nv (nI vj) ∧ pV I m nv (nI cj) then (if cfL J m nn (nI bj).toNatClampNeg (nI vj).toNatClampNeg (nI cj).toNatClampNeg = [] then (if nv = 60 then I else mdI (jC I (jJ J m nn (nI bj).toNatClampNeg (nI vj).toNatClampNeg (nI cj).toNatClampNeg nv nn) m nn s (nI bj).toNatClampNeg (nI vj).toNatClampNeg (nI cj).toNatClampNeg nv nc) m) else va_up (cfI I m (cfL J m nn (nI bj).toNatClampNeg (nI vj).toNatClampNeg (nI cj).toNatClampNeg)) m (va_up (I m) 18 (nI (cfL J m nn (nI bj).toNatClampNeg (nI vj).toNatClampNeg (nI cj).toNatClampNeg).length))) else I) (if pV I m nv (nI bj) ∧ pV I m nv (nI vj) ∧ pV I m nv (nI cj) then (if cfL J m nn (nI bj).toNatClampNeg (nI vj).toNatClampNeg (nI cj).toNatClampNeg = [] then (if nv = 60 then J else jJ J m nn (nI bj).toNatClampNeg (nI vj).toNatClampNeg (nI cj).toNatClampNeg nv nn) else J) else J) sz) 202 [.ref m, .int (nI bj), .int (nI vj), .int (nI cj), .int 0, .int (nI k), .null, .null, .null] [] K N R (jC I (jJ J m nn bj vj cj nv nn) m nn s bj vj cj nv k) (jJ J m nn bj vj cj nv nn) sz 0 0 := by
                intro t
                induction t with
                | zero =>
                  intro k hk
                  refine x_iload dX3_join_202 rfl ?_
                  refine x_aload_n dX3_join_204 rfl ?_
                  refine x_geti dX3_join_205 fl_X3_65 mw.k rfl ?_
                  refine x_icmp_ge 396 dX3_join_208 (by decide) (fun c208 => ?_) (fun c208 => ?_)
                  · obtain rfl : k = nc := by omega
                    refine x_aload_n dX3_join_396 rfl ?_
                    refine x_eV (c_X3_made l D mw) dX3_join_397 lk_X3_102 im_X3_made se_X3_made cd_X3_made (by decide) mw.k vcX3 rfl (by decide) rfl (by first | decide | simp [Value.category]) ?_
                    exact x_zi dX3_join_400 ⟨by rw [if_pos hG, clz (show bj < 64 by omega), clz (show vj < 64 by omega), clz (show cj < 64 by omega), if_pos hnil, chA, if_neg (by omega), jC_f (by decide), h4], rfl, rfl, rfl, by rw [if_pos hG, clz (show bj < 64 by omega), clz (show vj < 64 by omega), clz (show cj < 64 by omega), if_pos hnil, if_neg (by omega)]; rfl, by rw [if_pos hG, clz (show bj < 64 by omega), clz (show vj < 64 by omega), clz (show cj < 64 by omega), if_pos hnil, if_neg (by omega)], rfl⟩
                  · exact absurd (by rw [jC_f (by decide), h2]; exact nI_le (by omega) (by omega)) c208
                | succ t ih =>
                  intro k hk
                  refine x_iload dX3_join_202 rfl ?_
                  refine x_aload_n dX3_join_204 rfl ?_
                  refine x_geti dX3_join_205 fl_X3_65 mw.k rfl ?_
                  refine x_icmp_ge 396 dX3_join_208 (by decide) (fun c208 => ?_) (fun c208 => ?_)
                  · rw [jC_f (by decide), h2] at c208; exact absurd c208 (nI_ge (by omega) (by omega))
                  · refine x_aload_n dX3_join_211 rfl ?_
                    refine x_getq dX3_join_212 fl_X3_16 mw.k mw.r8 rfl ?_
                    refine x_bipush (v := (nI 64)) dX3_join_215 (by decide +kernel) ?_
                    refine x_iload_n dX3_join_217 rfl ?_
                    refine x_imul dX3_join_218 ?_
                    refine x_iload dX3_join_219 rfl ?_
                    refine x_iadd dX3_join_221 ?_
                    refine x_iald (64 * bj + k) dX3_join_222 mw.k8 mw.n8 (by rw [pk_mul, nI_add]) (by omega) (by decide) ?_
                    rw [jC_3 (v := bj) (by omega) (by omega) (by omega)]
                    refine x_istore dX3_join_223 (by decide) rfl ?_
                    refine x_aload_n dX3_join_225 rfl ?_
                    refine x_getq dX3_join_226 fl_X3_16 mw.k mw.r8 rfl ?_
                    refine x_bipush (v := (nI 64)) dX3_join_229 (by decide +kernel) ?_
                    refine x_iload_n dX3_join_231 rfl ?_
                    refine x_imul dX3_join_232 ?_
                    refine x_iload dX3_join_233 rfl ?_
                    refine x_iadd dX3_join_235 ?_
                    refine x_iald (64 * vj + k) dX3_join_236 mw.k8 mw.n8 (by rw [pk_mul, nI_add]) (by omega) (by decide) ?_
                    rw [jC_3 (v := vj) (by omega) (by omega) (by omega)]
                    refine x_istore dX3_join_237 (by decide) rfl ?_
                    refine x_aload_n dX3_join_239 rfl ?_
                    refine x_getq dX3_join_240 fl_X3_16 mw.k mw.r8 rfl ?_
                    refine x_bipush (v := (nI 64)) dX3_join_243 (by decide +kernel) ?_
                    refine x_iload_n dX3_join_245 rfl ?_
                    refine x_imul dX3_join_246 ?_
                    refine x_iload dX3_join_247 rfl ?_
                    refine x_iadd dX3_join_249 ?_
                    refine x_iald (64 * cj + k) dX3_join_250 mw.k8 mw.n8 (by rw [pk_mul, nI_add]) (by omega) (by decide) ?_
                    rw [jC_3 (v := cj) (by omega) (by omega) (by omega)]
                    refine x_istore dX3_join_251 (by decide) rfl ?_
                    refine x_iload dX3_join_253 rfl ?_
                    refine x_iload dX3_join_255 rfl ?_
                    refine x_icmp_ne 280 dX3_join_257 (by decide) (fun c257 => ?_) (fun c257 => ?_)
                    · refine x_iload dX3_join_280 rfl ?_
                      refine x_iload dX3_join_282 rfl ?_
                      refine x_icmp_eq 390 dX3_join_284 (by decide) (fun c284 => ?_) (fun c284 => ?_)
                      · have eA : jC I (jJ J m nn bj vj cj nv nn) m nn s bj vj cj nv (k + 1) = jC I (jJ J m nn bj vj cj nv nn) m nn s bj vj cj nv k := by simp only [jC]; rw [if_neg c257]; rw [if_pos (Or.inl c284)]
                        refine x_iinc dX3_join_390 rfl rfl (by decide) rfl ?_
                        refine x_goto 202 dX3_join_393 (by decide) ?_
                        refine x_drop 6 (x_drop 7 (x_drop 8 ?_))
                        exact x_eql (by show [_, _, _, _, _, Value.int _, _, _, _] = _; simp [nI_1]) (x_eqh (by rw [eA]; try rfl) rfl (ih (k + 1) (by omega)))
                      · refine x_iload dX3_join_287 rfl ?_
                        refine x_iload dX3_join_289 rfl ?_
                        refine x_icmp_eq 390 dX3_join_291 (by decide) (fun c291 => ?_) (fun c291 => ?_)
                        · have eA : jC I (jJ J m nn bj vj cj nv nn) m nn s bj vj cj nv (k + 1) = jC I (jJ J m nn bj vj cj nv nn) m nn s bj vj cj nv k := by simp only [jC]; rw [if_neg c257]; rw [if_pos (Or.inr c291)]
                          refine x_iinc dX3_join_390 rfl rfl (by decide) rfl ?_
                          refine x_goto 202 dX3_join_393 (by decide) ?_
                          refine x_drop 6 (x_drop 7 (x_drop 8 ?_))
                          exact x_eql (by show [_, _, _, _, _, Value.int _, _, _, _] = _; simp [nI_1]) (x_eqh (by rw [eA]; try rfl) rfl (ih (k + 1) (by omega)))
                        · have hzn : ¬ (I (m + 3) (64 * cj + k) = I (m + 3) (64 * bj + k) ∨ I (m + 3) (64 * cj + k) = I (m + 3) (64 * vj + k)) := fun z => z.elim c284 c291
                          refine x_aload_n dX3_join_294 rfl ?_
                          refine x_iload_n dX3_join_295 rfl ?_
                          refine x_iload dX3_join_296 rfl ?_
                          refine x_eV (c_X3_isLike l D mw (nv := nv) (nn := nn) (s := s) (oq := vj) (kq := k) (by rw [jC_f (by decide)]; exact h4) (by omega) (by rw [jC_f (by decide)]; exact h0) hnn (by rw [jC_f (by decide)]; exact h1) hs (by omega) (by omega)) dX3_join_298 lk_X3_129 im_X3_isLike se_X3_isLike cd_X3_isLike (by decide) mw.k vcX3 rfl (by decide) rfl (by first | decide | simp [Value.category]) ?_
                          refine x_if_eq 324 dX3_join_301 (by decide) (fun c301 => ?_) (fun c301 => ?_)
                          · rw [bI_e0] at c301
                            refine x_aload_n dX3_join_324 rfl ?_
                            refine x_iload_n dX3_join_325 rfl ?_
                            refine x_iload dX3_join_326 rfl ?_
                            refine x_eV (c_X3_isLike l D mw (nv := nv) (nn := nn) (s := s) (oq := cj) (kq := k) (by rw [jC_f (by decide)]; exact h4) (by omega) (by rw [jC_f (by decide)]; exact h0) hnn (by rw [jC_f (by decide)]; exact h1) hs (by omega) (by omega)) dX3_join_328 lk_X3_129 im_X3_isLike se_X3_isLike cd_X3_isLike (by decide) mw.k vcX3 rfl (by decide) rfl (by first | decide | simp [Value.category]) ?_
                            refine x_if_eq 354 dX3_join_331 (by decide) (fun c331 => ?_) (fun c331 => ?_)
                            · rw [bI_e0] at c331
                              refine x_aload_n dX3_join_354 rfl ?_
                              refine x_iload_n dX3_join_355 rfl ?_
                              refine x_iload dX3_join_356 rfl ?_
                              refine x_eV (c_X3_isLike l D mw (nv := nv) (nn := nn) (s := s) (oq := bj) (kq := k) (by rw [jC_f (by decide)]; exact h4) (by omega) (by rw [jC_f (by decide)]; exact h0) hnn (by rw [jC_f (by decide)]; exact h1) hs (by omega) (by omega)) dX3_join_358 lk_X3_129 im_X3_isLike se_X3_isLike cd_X3_isLike (by decide) mw.k vcX3 rfl (by decide) rfl (by first | decide | simp [Value.category]) ?_
                              refine x_if_eq 384 dX3_join_361 (by decide) (fun c361 => ?_) (fun c361 => ?_)
                              · rw [bI_e0] at c361
                                refine x_aload_n dX3_join_384 rfl ?_
                                refine x_iload dX3_join_385 rfl ?_
                                refine x_eW (c_X3_fresh l D mw (nv := nv) (k := k) (by rw [jC_f (by decide)]; exact h4) (by omega) (by omega)) dX3_join_387 lk_X3_99 im_X3_fresh se_X3_fresh cd_X3_fresh (by decide) mw.k vcX3 rfl (by decide) rfl (by first | decide | simp [Value.category]) ?_
                                have eA : jC I (jJ J m nn bj vj cj nv nn) m nn s bj vj cj nv (k + 1) = frI (jC I (jJ J m nn bj vj cj nv nn) m nn s bj vj cj nv k) m nv k := by simp only [jC]; rw [if_neg c257]; rw [if_neg hzn]; rw [if_neg c301]; rw [if_neg c331]; rw [if_neg c361]
                                refine x_iinc dX3_join_390 rfl rfl (by decide) rfl ?_
                                refine x_goto 202 dX3_join_393 (by decide) ?_
                                refine x_drop 6 (x_drop 7 (x_drop 8 ?_))
                                exact x_eql (by show [_, _, _, _, _, Value.int _, _, _, _] = _; simp [nI_1]) (x_eqh (by rw [eA]; try rfl) rfl (ih (k + 1) (by omega)))
                              · rw [bI_n0] at c361
                                refine x_aload_n dX3_join_364 rfl ?_
                                refine x_getq dX3_join_365 fl_X3_16 mw.k mw.r8 rfl ?_
                                refine x_bipush (v := (nI 64)) dX3_join_368 (by decide +kernel) ?_
                                refine x_aload_n dX3_join_370 rfl ?_
                                refine x_geti dX3_join_371 fl_X3_51 mw.k rfl ?_
                                refine x_imul dX3_join_374 ?_
                                refine x_iload dX3_join_375 rfl ?_
                                refine x_iadd dX3_join_377 ?_
                                refine x_iload dX3_join_378 rfl ?_
                                refine x_iast (64 * nv + k) dX3_join_380 mw.k8 mw.n8 (by rw [jC_f (by decide), h4, pk_mul, nI_add]) (by omega) (by decide) ?_
                                have eA : jC I (jJ J m nn bj vj cj nv nn) m nn s bj vj cj nv (k + 1) = va_up (jC I (jJ J m nn bj vj cj nv nn) m nn s bj vj cj nv k) (m + 3) (va_up (jC I (jJ J m nn bj vj cj nv nn) m nn s bj vj cj nv k (m + 3)) (64 * nv + k) (I (m + 3) (64 * bj + k))) := by simp only [jC]; rw [if_neg c257]; rw [if_neg hzn]; rw [if_neg c301]; rw [if_neg c331]; rw [if_pos c361]
                                refine x_goto 390 dX3_join_381 (by decide) ?_
                                refine x_iinc dX3_join_390 rfl rfl (by decide) rfl ?_
                                refine x_goto 202 dX3_join_393 (by decide) ?_
                                refine x_drop 6 (x_drop 7 (x_drop 8 ?_))
                                exact x_eql (by show [_, _, _, _, _, Value.int _, _, _, _] = _; simp [nI_1]) (x_eqh (by rw [eA]; try rfl) rfl (ih (k + 1) (by omega)))
                            · rw [bI_n0] at c331
                              refine x_aload_n dX3_join_334 rfl ?_
                              refine x_getq dX3_join_335 fl_X3_16 mw.k mw.r8 rfl ?_
                              refine x_bipush (v := (nI 64)) dX3_join_338 (by decide +kernel) ?_
                              refine x_aload_n dX3_join_340 rfl ?_
                              refine x_geti dX3_join_341 fl_X3_51 mw.k rfl ?_
                              refine x_imul dX3_join_344 ?_
                              refine x_iload dX3_join_345 rfl ?_
                              refine x_iadd dX3_join_347 ?_
                              refine x_iload dX3_join_348 rfl ?_
                              refine x_iast (64 * nv + k) dX3_join_350 mw.k8 mw.n8 (by rw [jC_f (by decide), h4, pk_mul, nI_add]) (by omega) (by decide) ?_
                              have eA : jC I (jJ J m nn bj vj cj nv nn) m nn s bj vj cj nv (k + 1) = va_up (jC I (jJ J m nn bj vj cj nv nn) m nn s bj vj cj nv k) (m + 3) (va_up (jC I (jJ J m nn bj vj cj nv nn) m nn s bj vj cj nv k (m + 3)) (64 * nv + k) (I (m + 3) (64 * cj + k))) := by simp only [jC]; rw [if_neg c257]; rw [if_neg hzn]; rw [if_neg c301]; rw [if_pos c331]
                              refine x_goto 390 dX3_join_351 (by decide) ?_
                              refine x_iinc dX3_join_390 rfl rfl (by decide) rfl ?_
                              refine x_goto 202 dX3_join_393 (by decide) ?_
                              refine x_drop 6 (x_drop 7 (x_drop 8 ?_))
                              exact x_eql (by show [_, _, _, _, _, Value.int _, _, _, _] = _; simp [nI_1]) (x_eqh (by rw [eA]; try rfl) rfl (ih (k + 1) (by omega)))
                          · rw [bI_n0] at c301
                            refine x_aload_n dX3_join_304 rfl ?_
                            refine x_getq dX3_join_305 fl_X3_16 mw.k mw.r8 rfl ?_
                            refine x_bipush (v := (nI 64)) dX3_join_308 (by decide +kernel) ?_
                            refine x_aload_n dX3_join_310 rfl ?_
                            refine x_geti dX3_join_311 fl_X3_51 mw.k rfl ?_
                            refine x_imul dX3_join_314 ?_
                            refine x_iload dX3_join_315 rfl ?_
                            refine x_iadd dX3_join_317 ?_
                            refine x_iload dX3_join_318 rfl ?_
                            refine x_iast (64 * nv + k) dX3_join_320 mw.k8 mw.n8 (by rw [jC_f (by decide), h4, pk_mul, nI_add]) (by omega) (by decide) ?_
                            have eA : jC I (jJ J m nn bj vj cj nv nn) m nn s bj vj cj nv (k + 1) = va_up (jC I (jJ J m nn bj vj cj nv nn) m nn s bj vj cj nv k) (m + 3) (va_up (jC I (jJ J m nn bj vj cj nv nn) m nn s bj vj cj nv k (m + 3)) (64 * nv + k) (I (m + 3) (64 * vj + k))) := by simp only [jC]; rw [if_neg c257]; rw [if_neg hzn]; rw [if_pos c301]
                            refine x_goto 390 dX3_join_321 (by decide) ?_
                            refine x_iinc dX3_join_390 rfl rfl (by decide) rfl ?_
                            refine x_goto 202 dX3_join_393 (by decide) ?_
                            refine x_drop 6 (x_drop 7 (x_drop 8 ?_))
                            exact x_eql (by show [_, _, _, _, _, Value.int _, _, _, _] = _; simp [nI_1]) (x_eqh (by rw [eA]; try rfl) rfl (ih (k + 1) (by omega)))
                    · refine x_aload_n dX3_join_260 rfl ?_
                      refine x_getq dX3_join_261 fl_X3_16 mw.k mw.r8 rfl ?_
                      refine x_bipush (v := (nI 64)) dX3_join_264 (by decide +kernel) ?_
                      refine x_aload_n dX3_join_266 rfl ?_
                      refine x_geti dX3_join_267 fl_X3_51 mw.k rfl ?_
                      refine x_imul dX3_join_270 ?_
                      refine x_iload dX3_join_271 rfl ?_
                      refine x_iadd dX3_join_273 ?_
                      refine x_iload dX3_join_274 rfl ?_
                      refine x_iast (64 * nv + k) dX3_join_276 mw.k8 mw.n8 (by rw [jC_f (by decide), h4, pk_mul, nI_add]) (by omega) (by decide) ?_
                      have eA : jC I (jJ J m nn bj vj cj nv nn) m nn s bj vj cj nv (k + 1) = va_up (jC I (jJ J m nn bj vj cj nv nn) m nn s bj vj cj nv k) (m + 3) (va_up (jC I (jJ J m nn bj vj cj nv nn) m nn s bj vj cj nv k (m + 3)) (64 * nv + k) (I (m + 3) (64 * cj + k))) := by simp only [jC]; rw [if_pos c257]
                      refine x_goto 390 dX3_join_277 (by decide) ?_
                      refine x_iinc dX3_join_390 rfl rfl (by decide) rfl ?_
                      refine x_goto 202 dX3_join_393 (by decide) ?_
                      refine x_drop 6 (x_drop 7 (x_drop 8 ?_))
                      exact x_eql (by show [_, _, _, _, _, Value.int _, _, _, _] = _; simp [nI_1]) (x_eqh (by rw [eA]; try rfl) rfl (ih (k + 1) (by omega)))
              have o2 : ∀ (Tq n : Nat), Tq + n = nn → XW l D (fun _ => True) RX3 "join" cX3_join 9 2 0 0 K sz (Zx (some (.int (if pV I m nv (nI bj) ∧ pV I m nv (nI vj) ∧ pV I m nv (nI cj) then (if cfL J m nn (nI bj).toNatClampNeg (nI vj).toNatClampNeg (nI cj).toNatClampNeg = [] then chA nv else -10 - nI (cfL J m nn (nI bj).toNatClampNeg (nI vj).toNatClampNeg (nI cj).toNatClampNeg).length) else -1))) K N R (if pV I m nv (nI bj) ∧ pV I m nv (nI vj) ∧ pV I m nv (nI cj) then (if cfL J m nn (nI bj).toNatClampNeg (nI vj).toNatClampNeg (nI cj).toNatClampNeg = [] then (if nv = 60 then I else mdI (jC I (jJ J m nn (nI bj).toNatClampNeg (nI vj).toNatClampNeg (nI cj).toNatClampNeg nv nn) m nn s (nI bj).toNatClampNeg (nI vj).toNatClampNeg (nI cj).toNatClampNeg nv nc) m) else va_up (cfI I m (cfL J m nn (nI bj).toNatClampNeg (nI vj).toNatClampNeg (nI cj).toNatClampNeg)) m (va_up (I m) 18 (nI (cfL J m nn (nI bj).toNatClampNeg (nI vj).toNatClampNeg (nI cj).toNatClampNeg).length))) else I) (if pV I m nv (nI bj) ∧ pV I m nv (nI vj) ∧ pV I m nv (nI cj) then (if cfL J m nn (nI bj).toNatClampNeg (nI vj).toNatClampNeg (nI cj).toNatClampNeg = [] then (if nv = 60 then J else jJ J m nn (nI bj).toNatClampNeg (nI vj).toNatClampNeg (nI cj).toNatClampNeg nv nn) else J) else J) sz) 140 [.ref m, .int (nI bj), .int (nI vj), .int (nI cj), .int 0, .int (nI n), .null, .null, .null] [] K N R (cpI2 I m vj nv) (jJ J m nn bj vj cj nv n) sz 0 0 := by
                intro Tq
                induction Tq with
                | zero =>
                  intro n hn
                  obtain rfl : n = nn := by omega
                  refine x_iload dX3_join_140 rfl ?_
                  refine x_aload_n dX3_join_142 rfl ?_
                  refine x_geti dX3_join_143 fl_X3_59 mw.k rfl ?_
                  refine x_icmp_ge 199 dX3_join_146 (by decide) (fun c146 => ?_) (fun c146 => ?_)
                  · refine x_iconst (v := (0)) dX3_join_199 (by decide +kernel) ?_
                    refine x_istore dX3_join_200 (by decide) rfl ?_
                    exact x_eql rfl (ch nc 0 rfl)
                  · exact absurd (by rw [cpI2_m, h0]; exact nI_le (by omega) (by omega)) c146
                | succ Tq ih =>
                  intro n hn
                  have in2 : ∀ (Tq p : Nat), Tq + p = nn + 2 → XW l D (fun _ => True) RX3 "join" cX3_join 9 2 0 0 K sz (Zx (some (.int (if pV I m nv (nI bj) ∧ pV I m nv (nI vj) ∧ pV I m nv (nI cj) then (if cfL J m nn (nI bj).toNatClampNeg (nI vj).toNatClampNeg (nI cj).toNatClampNeg = [] then chA nv else -10 - nI (cfL J m nn (nI bj).toNatClampNeg (nI vj).toNatClampNeg (nI cj).toNatClampNeg).length) else -1))) K N R (if pV I m nv (nI bj) ∧ pV I m nv (nI vj) ∧ pV I m nv (nI cj) then (if cfL J m nn (nI bj).toNatClampNeg (nI vj).toNatClampNeg (nI cj).toNatClampNeg = [] then (if nv = 60 then I else mdI (jC I (jJ J m nn (nI bj).toNatClampNeg (nI vj).toNatClampNeg (nI cj).toNatClampNeg nv nn) m nn s (nI bj).toNatClampNeg (nI vj).toNatClampNeg (nI cj).toNatClampNeg nv nc) m) else va_up (cfI I m (cfL J m nn (nI bj).toNatClampNeg (nI vj).toNatClampNeg (nI cj).toNatClampNeg)) m (va_up (I m) 18 (nI (cfL J m nn (nI bj).toNatClampNeg (nI vj).toNatClampNeg (nI cj).toNatClampNeg).length))) else I) (if pV I m nv (nI bj) ∧ pV I m nv (nI vj) ∧ pV I m nv (nI cj) then (if cfL J m nn (nI bj).toNatClampNeg (nI vj).toNatClampNeg (nI cj).toNatClampNeg = [] then (if nv = 60 then J else jJ J m nn (nI bj).toNatClampNeg (nI vj).toNatClampNeg (nI cj).toNatClampNeg nv nn) else J) else J) sz) 152 [.ref m, .int (nI bj), .int (nI vj), .int (nI cj), .int 0, .int (nI n), .int (tN (cdp nn p)), .null, .null] [] K N R (cpI2 I m vj nv) (jP J m nn bj vj cj nv n (jJ J m nn bj vj cj nv n) p) sz 0 0 := by
                    intro Tq
                    induction Tq with
                    | zero =>
                      intro p hp
                      obtain rfl : p = nn + 2 := by omega
                      rw [tN_end]
                      refine x_iload dX3_join_152 rfl ?_
                      refine x_bipush (v := (-3)) dX3_join_154 (by decide +kernel) ?_
                      refine x_icmp_eq 193 dX3_join_156 (by decide) (fun c156 => ?_) (fun c156 => ?_)
                      · refine x_iinc dX3_join_193 rfl rfl (by decide) rfl ?_
                        refine x_goto 140 dX3_join_196 (by decide) ?_
                        refine x_drop 6 ?_
                        exact x_eql (by show [_, _, _, _, _, Value.int _, _, _, _] = _; simp [nI_1]) (ih (n + 1) (by omega))
                      · exact absurd (by decide +kernel) c156
                    | succ Tq ihq =>
                      intro p hp
                      refine x_iload dX3_join_152 rfl ?_
                      refine x_bipush (v := (-3)) dX3_join_154 (by decide +kernel) ?_
                      refine x_icmp_eq 193 dX3_join_156 (by decide) (fun c156 => ?_) (fun c156 => ?_)
                      · exact absurd c156 (tN_go _ (cdp_lt hnn (by omega)))
                      · refine x_aload_n dX3_join_159 rfl ?_
                        refine x_aload_n dX3_join_160 rfl ?_
                        refine x_geti dX3_join_161 fl_X3_51 mw.k rfl ?_
                        refine x_iload dX3_join_164 rfl ?_
                        refine x_iload dX3_join_166 rfl ?_
                        refine x_aload_n dX3_join_168 rfl ?_
                        refine x_iload_n dX3_join_169 rfl ?_
                        refine x_iload_n dX3_join_170 rfl ?_
                        refine x_iload_n dX3_join_171 rfl ?_
                        refine x_iload dX3_join_172 rfl ?_
                        refine x_iload dX3_join_174 rfl ?_
                        refine x_eV (c_X3_joined l D mw (vb := bj) (va := vj) (vc := cj) (n := n) (c := cdp nn p) (by omega) (by omega) (by omega) (by omega) (cdp_lt hnn (by omega))) dX3_join_176 lk_X3_125 im_X3_joined se_X3_joined cd_X3_joined (by decide) mw.k vcX3 rfl (by decide) rfl (by first | decide | simp [Value.category]) ?_
                        rw [jnd_congr (J := J) (n := n) (c := cdp nn p) (fun v hv => by rw [jP_i hnn (by rcases hv with rfl | rfl | rfl <;> omega) (by omega) (by omega) (cdp_lt hnn (by omega)) (by omega), jJ_i hnn hvj (by rcases hv with rfl | rfl | rfl <;> omega) (by omega) (cdp_lt hnn (by omega)) (by omega)]), cpI2_m, h4]
                        refine x_eW (c_X3_sets l D mw (v := nv) (n := n) (c := cdp nn p) (by omega) (by omega) (cdp_lt hnn (by omega))) dX3_join_179 lk_X3_95 im_X3_sets se_X3_sets cd_X3_sets (by decide) mw.k vcX3 rfl (by decide) rfl (by first | decide | simp [Value.category]) ?_
                        refine x_aload_n dX3_join_182 rfl ?_
                        refine x_iload dX3_join_183 rfl ?_
                        refine x_eV (c_X3_following l D mw (n := nn) (p := p) (by rw [cpI2_m]; exact h0) (by omega) hnn (by omega)) dX3_join_185 lk_X3_117 im_X3_following se_X3_following cd_X3_following (by decide) mw.k vcX3 rfl (by decide) rfl (by first | decide | simp [Value.category]) ?_
                        refine x_istore dX3_join_188 (by decide) rfl ?_
                        refine x_goto 152 dX3_join_190 (by decide) ?_
                        exact x_eql rfl (x_eqh rfl rfl (ihq (p + 1) (by omega)))
                  refine x_iload dX3_join_140 rfl ?_
                  refine x_aload_n dX3_join_142 rfl ?_
                  refine x_geti dX3_join_143 fl_X3_59 mw.k rfl ?_
                  refine x_icmp_ge 199 dX3_join_146 (by decide) (fun c146 => ?_) (fun c146 => ?_)
                  · rw [cpI2_m, h0] at c146; exact absurd c146 (nI_ge (by omega) (by omega))
                  · refine x_iconst (v := (0)) dX3_join_149 (by decide +kernel) ?_
                    refine x_istore dX3_join_150 (by decide) rfl ?_
                    exact x_eql (by show [_, _, _, _, _, _, Value.int _, _, _] = _; rw [cdp_0 (by omega)]) (in2 (nn + 2) 0 rfl)
              refine x_aload_n dX3_join_132 rfl ?_
              refine x_iload_n dX3_join_133 rfl ?_
              refine x_eW (c_X3_copies l D mw h4 hvj (by omega)) dX3_join_134 lk_X3_87 im_X3_copies se_X3_copies cd_X3_copies (by decide) mw.k vcX3 rfl (by decide) rfl (by first | decide | simp [Value.category]) ?_
              refine x_iconst (v := (0)) dX3_join_137 (by decide +kernel) ?_
              refine x_istore dX3_join_138 (by decide) rfl ?_
              exact x_eql rfl (o2 nn 0 rfl)
            · have h60 : nv = 60 := by rw [h4] at c126; exact (nI_eq (by omega) (by omega)).mp c126
              refine x_bipush (v := (-3)) dX3_join_129 (by decide +kernel) ?_
              exact x_zi dX3_join_131 ⟨by rw [if_pos hG, clz (show bj < 64 by omega), clz (show vj < 64 by omega), clz (show cj < 64 by omega), if_pos hnil, chA, if_pos h60], rfl, rfl, rfl, by rw [if_pos hG, clz (show bj < 64 by omega), clz (show vj < 64 by omega), clz (show cj < 64 by omega), if_pos hnil, if_pos h60], by rw [if_pos hG, clz (show bj < 64 by omega), clz (show vj < 64 by omega), clz (show cj < 64 by omega), if_pos hnil, if_pos h60], rfl⟩
          · have hnil : ¬ cfL J m nn bj vj cj = [] := fun z => c105 (by rw [z]; decide +kernel)
            refine x_aload_n dX3_join_108 rfl ?_
            refine x_iload dX3_join_109 rfl ?_
            refine x_puti dX3_join_111 fl_X3_82 mw.k rfl (Or.inl rfl) ?_
            refine x_bipush (v := (-10)) dX3_join_114 (by decide +kernel) ?_
            refine x_iload dX3_join_116 rfl ?_
            refine x_isub dX3_join_118 ?_
            exact x_zi dX3_join_119 ⟨by rw [if_pos hG, clz (show bj < 64 by omega), clz (show vj < 64 by omega), clz (show cj < 64 by omega), if_neg hnil], rfl, rfl, rfl, by rw [if_pos hG, clz (show bj < 64 by omega), clz (show vj < 64 by omega), clz (show cj < 64 by omega), if_neg hnil, cfI_o (by omega) (by omega)], by rw [if_pos hG, clz (show bj < 64 by omega), clz (show vj < 64 by omega), clz (show cj < 64 by omega), if_neg hnil], rfl⟩
        have o1 : ∀ (Tq n : Nat), Tq + n = nn → XW l D (fun _ => True) RX3 "join" cX3_join 9 2 0 0 K sz (Zx (some (.int (if pV I m nv (nI bj) ∧ pV I m nv (nI vj) ∧ pV I m nv (nI cj) then (if cfL J m nn (nI bj).toNatClampNeg (nI vj).toNatClampNeg (nI cj).toNatClampNeg = [] then chA nv else -10 - nI (cfL J m nn (nI bj).toNatClampNeg (nI vj).toNatClampNeg (nI cj).toNatClampNeg).length) else -1))) K N R (if pV I m nv (nI bj) ∧ pV I m nv (nI vj) ∧ pV I m nv (nI cj) then (if cfL J m nn (nI bj).toNatClampNeg (nI vj).toNatClampNeg (nI cj).toNatClampNeg = [] then (if nv = 60 then I else mdI (jC I (jJ J m nn (nI bj).toNatClampNeg (nI vj).toNatClampNeg (nI cj).toNatClampNeg nv nn) m nn s (nI bj).toNatClampNeg (nI vj).toNatClampNeg (nI cj).toNatClampNeg nv nc) m) else va_up (cfI I m (cfL J m nn (nI bj).toNatClampNeg (nI vj).toNatClampNeg (nI cj).toNatClampNeg)) m (va_up (I m) 18 (nI (cfL J m nn (nI bj).toNatClampNeg (nI vj).toNatClampNeg (nI cj).toNatClampNeg).length))) else I) (if pV I m nv (nI bj) ∧ pV I m nv (nI vj) ∧ pV I m nv (nI cj) then (if cfL J m nn (nI bj).toNatClampNeg (nI vj).toNatClampNeg (nI cj).toNatClampNeg = [] then (if nv = 60 then J else jJ J m nn (nI bj).toNatClampNeg (nI vj).toNatClampNeg (nI cj).toNatClampNeg nv nn) else J) else J) sz) 32 [.ref m, .int (nI bj), .int (nI vj), .int (nI cj), .int (nI (lstP (nodL (uC J m nn bj vj cj) nn) n).length), .int (nI n), .null, .null, .null] [] K N R (cfI I m (lstP (nodL (uC J m nn bj vj cj) nn) n)) (J) sz 0 0 := by
          intro Tq
          induction Tq with
          | zero =>
            intro n hn
            obtain rfl : n = nn := by omega
            refine x_iload dX3_join_32 rfl ?_
            refine x_aload_n dX3_join_34 rfl ?_
            refine x_geti dX3_join_35 fl_X3_59 mw.k rfl ?_
            refine x_icmp_ge 103 dX3_join_38 (by decide) (fun c38 => ?_) (fun c38 => ?_)
            · refine x_drop 5 ?_
              exact x_eql rfl after
            · exact absurd (by rw [cfI_o (by omega) (by omega), h0]; exact nI_le (by omega) (by omega)) c38
          | succ Tq ih =>
            intro n hn
            have in1 : ∀ (Tq p : Nat), Tq + p = nn + 2 → XW l D (fun _ => True) RX3 "join" cX3_join 9 2 0 0 K sz (Zx (some (.int (if pV I m nv (nI bj) ∧ pV I m nv (nI vj) ∧ pV I m nv (nI cj) then (if cfL J m nn (nI bj).toNatClampNeg (nI vj).toNatClampNeg (nI cj).toNatClampNeg = [] then chA nv else -10 - nI (cfL J m nn (nI bj).toNatClampNeg (nI vj).toNatClampNeg (nI cj).toNatClampNeg).length) else -1))) K N R (if pV I m nv (nI bj) ∧ pV I m nv (nI vj) ∧ pV I m nv (nI cj) then (if cfL J m nn (nI bj).toNatClampNeg (nI vj).toNatClampNeg (nI cj).toNatClampNeg = [] then (if nv = 60 then I else mdI (jC I (jJ J m nn (nI bj).toNatClampNeg (nI vj).toNatClampNeg (nI cj).toNatClampNeg nv nn) m nn s (nI bj).toNatClampNeg (nI vj).toNatClampNeg (nI cj).toNatClampNeg nv nc) m) else va_up (cfI I m (cfL J m nn (nI bj).toNatClampNeg (nI vj).toNatClampNeg (nI cj).toNatClampNeg)) m (va_up (I m) 18 (nI (cfL J m nn (nI bj).toNatClampNeg (nI vj).toNatClampNeg (nI cj).toNatClampNeg).length))) else I) (if pV I m nv (nI bj) ∧ pV I m nv (nI vj) ∧ pV I m nv (nI cj) then (if cfL J m nn (nI bj).toNatClampNeg (nI vj).toNatClampNeg (nI cj).toNatClampNeg = [] then (if nv = 60 then J else jJ J m nn (nI bj).toNatClampNeg (nI vj).toNatClampNeg (nI cj).toNatClampNeg nv nn) else J) else J) sz) 44 [.ref m, .int (nI bj), .int (nI vj), .int (nI cj), .int (nI (preL (uC J m nn bj vj cj) nn n p).length), .int (nI n), .int (tN (cdp nn p)), .null, .null] [] K N R (cfI I m (preL (uC J m nn bj vj cj) nn n p)) (J) sz 0 0 := by
              intro Tq
              induction Tq with
              | zero =>
                intro p hp
                obtain rfl : p = nn + 2 := by omega
                rw [tN_end, preL_end]
                refine x_iload dX3_join_44 rfl ?_
                refine x_bipush (v := (-3)) dX3_join_46 (by decide +kernel) ?_
                refine x_icmp_eq 97 dX3_join_48 (by decide) (fun c48 => ?_) (fun c48 => ?_)
                · refine x_iinc dX3_join_97 rfl rfl (by decide) rfl ?_
                  refine x_goto 32 dX3_join_100 (by decide) ?_
                  refine x_drop 6 ?_
                  exact x_eql (by show [_, _, _, _, _, Value.int _, _, _, _] = _; simp [nI_1]) (ih (n + 1) (by omega))
                · exact absurd (by decide +kernel) c48
              | succ Tq ihq =>
                intro p hp
                have hlen := preL_len (u := (uC J m nn bj vj cj)) hnn (show n < nn by omega) (show p < nn + 2 by omega)
                refine x_iload dX3_join_44 rfl ?_
                refine x_bipush (v := (-3)) dX3_join_46 (by decide +kernel) ?_
                refine x_icmp_eq 97 dX3_join_48 (by decide) (fun c48 => ?_) (fun c48 => ?_)
                · exact absurd c48 (tN_go _ (cdp_lt hnn (by omega)))
                · refine x_aload_n dX3_join_51 rfl ?_
                  refine x_iload_n dX3_join_52 rfl ?_
                  refine x_iload_n dX3_join_53 rfl ?_
                  refine x_iload_n dX3_join_54 rfl ?_
                  refine x_iload dX3_join_55 rfl ?_
                  refine x_iload dX3_join_57 rfl ?_
                  refine x_eV (c_X3_isConflict l D mw (vb := bj) (va := vj) (vc := cj) (n := n) (c := cdp nn p) (by omega) (by omega) (by omega) (by omega) (cdp_lt hnn (by omega))) dX3_join_59 lk_X3_121 im_X3_isConflict se_X3_isConflict cd_X3_isConflict (by decide) mw.k vcX3 rfl (by decide) rfl (by first | decide | simp [Value.category]) ?_
                  refine x_if_eq 86 dX3_join_62 (by decide) (fun c62 => ?_) (fun c62 => ?_)
                  · rw [bI_e0] at c62
                    have hu : (uC J m nn bj vj cj) n p = false := decide_eq_false c62
                    refine x_aload_n dX3_join_86 rfl ?_
                    refine x_iload dX3_join_87 rfl ?_
                    refine x_eV (c_X3_following l D mw (n := nn) (p := p) (by first | exact (congrFun (cfI_o (by omega) (by omega)) 0).trans h0) (by omega) hnn (by omega)) dX3_join_89 lk_X3_117 im_X3_following se_X3_following cd_X3_following (by decide) mw.k vcX3 rfl (by decide) rfl (by first | decide | simp [Value.category]) ?_
                    refine x_istore dX3_join_92 (by decide) rfl ?_
                    refine x_goto 44 dX3_join_94 (by decide) ?_
                    exact x_eql (by show [_, _, _, _, Value.int _, _, Value.int _, _, _] = _; rw [preL_f hu]) (x_eqh (by rw [preL_f hu]) rfl (ihq (p + 1) (by omega)))
                  · rw [bI_n0] at c62
                    have hu : (uC J m nn bj vj cj) n p = true := decide_eq_true c62
                    refine x_aload_n dX3_join_65 rfl ?_
                    refine x_getq dX3_join_66 fl_X3_42 mw.k mw.r19 rfl ?_
                    refine x_iload dX3_join_69 rfl ?_
                    refine x_iload dX3_join_71 rfl ?_
                    refine x_iast ((preL (uC J m nn bj vj cj) nn n p).length) dX3_join_73 mw.k19 mw.n19 rfl (by omega) (by decide) ?_
                    refine x_aload_n dX3_join_74 rfl ?_
                    refine x_getq dX3_join_75 fl_X3_45 mw.k mw.r20 rfl ?_
                    refine x_iload dX3_join_78 rfl ?_
                    refine x_iload dX3_join_80 rfl ?_
                    refine x_iast ((preL (uC J m nn bj vj cj) nn n p).length) dX3_join_82 mw.k20 mw.n20 rfl (by omega) (by decide) ?_
                    refine x_eqh (cfI_step (n := n) (c := cdp nn p) (by rw [va_up_ne _ _ (show m + 12 ≠ m + 11 by omega)])) rfl ?_
                    refine x_iinc dX3_join_83 rfl rfl (by decide) rfl ?_
                    refine x_aload_n dX3_join_86 rfl ?_
                    refine x_iload dX3_join_87 rfl ?_
                    refine x_eV (c_X3_following l D mw (n := nn) (p := p) (by first | exact (congrFun (cfI_o (by omega) (by omega)) 0).trans h0) (by omega) hnn (by omega)) dX3_join_89 lk_X3_117 im_X3_following se_X3_following cd_X3_following (by decide) mw.k vcX3 rfl (by decide) rfl (by first | decide | simp [Value.category]) ?_
                    refine x_istore dX3_join_92 (by decide) rfl ?_
                    refine x_goto 44 dX3_join_94 (by decide) ?_
                    exact x_eql (by show [_, _, _, _, Value.int _, _, Value.int _, _, _] = _; rw [preL_t hu]; simp [nI_1]) (x_eqh (by rw [preL_t hu]) rfl (ihq (p + 1) (by omega)))
            refine x_iload dX3_join_32 rfl ?_
            refine x_aload_n dX3_join_34 rfl ?_
            refine x_geti dX3_join_35 fl_X3_59 mw.k rfl ?_
            refine x_icmp_ge 103 dX3_join_38 (by decide) (fun c38 => ?_) (fun c38 => ?_)
            · rw [cfI_o (by omega) (by omega), h0] at c38; exact absurd c38 (nI_ge (by omega) (by omega))
            · refine x_iconst (v := (0)) dX3_join_41 (by decide +kernel) ?_
              refine x_istore dX3_join_42 (by decide) rfl ?_
              exact x_eql (by show [_, _, _, _, Value.int _, _, Value.int _, _, _] = _; rw [cdp_0 (by omega), preL_0]) (x_eqh (by rw [preL_0]) rfl (in1 (nn + 2) 0 rfl))
        refine x_iconst (v := (0)) dX3_join_26 (by decide +kernel) ?_
        refine x_istore dX3_join_27 (by decide) rfl ?_
        refine x_iconst (v := (0)) dX3_join_29 (by decide +kernel) ?_
        refine x_istore dX3_join_30 (by decide) rfl ?_
        exact x_eqh cfI_nil.symm rfl (x_eql rfl (o1 nn 0 rfl))
      · rw [bI_e0] at c21
        refine x_iconst (v := (-1)) dX3_join_24 (by decide +kernel) ?_
        exact x_zi dX3_join_25 ⟨by rw [if_neg (by rintro ⟨z1, z2, z3⟩; first | exact c5 z1 | exact c13 z2 | exact c21 z3)], rfl, rfl, rfl, by rw [if_neg (by rintro ⟨z1, z2, z3⟩; first | exact c5 z1 | exact c13 z2 | exact c21 z3)], by rw [if_neg (by rintro ⟨z1, z2, z3⟩; first | exact c5 z1 | exact c13 z2 | exact c21 z3)], rfl⟩
