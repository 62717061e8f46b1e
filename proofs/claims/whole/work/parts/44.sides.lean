/-! Both sides: clock, rows, conflicts told, letting go -/
section
variable {x m : Nat} {K N : Nat → Nat} {R R2 : Nat → Nat → Nat} {I I2 Im Im2 : Nat → Nat → Int32} {J J2 Jm Jm2 : Nat → Nat → Int64} {nn s nc nv ce : Nat}
theorem CpC.ext (h : CpC x I J m Im) (h1 : J2 (x + 6) = J (x + 6)) (h2 : J2 (x + 7) = J (x + 7)) (h3 : I2 (x + 5) 0 = I (x + 5) 0) (h4 : Im2 m 18 = Im m 18) (h5 : Im2 (m + 11) = Im (m + 11)) (h6 : Im2 (m + 12) = Im (m + 12)) : CpC x I2 J2 m Im2 := by
  unfold CpC; rw [h1, h2, h3, h4, h5, h6]; exact h
theorem CpR.ext {nv2 : Nat} (h : CpR x R I J m Im Jm nn nv) (hnn : nn ≤ 64) (hle : nv ≤ nv2) (h3 : R2 x 3 = R x 3) (h4 : R2 x 4 = R x 4) (hI : I2 (x + 2) 0 = I (x + 2) 0) (hJ3 : J2 (x + 3) = J (x + 3)) (hJ4 : J2 (x + 4) = J (x + 4)) (hv : ∀ v, v < nv → R2 (x + 1) v = R (x + 1) v ∧ J2 (R (x + 1) v + 1) = J (R (x + 1) v + 1) ∧ J2 (R (x + 1) v + 2) = J (R (x + 1) v + 2)) (h12 : Im2 m 12 = Im m 12) (h13 : Im2 m 13 = Im m 13) (h7 : Im2 (m + 7) = Im (m + 7)) (h8 : Im2 (m + 8) = Im (m + 8)) (h9 : Jm2 (m + 9) = Jm (m + 9)) (h10 : Jm2 (m + 10) = Jm (m + 10)) (hi : ∀ v n c, v < nv → n < 64 → c < 66 → itm Jm2 m v n c = itm Jm m v n c) : CpR x R2 I2 J2 m Im2 Jm2 nn nv2 := by
  rcases h with ⟨g1, g2, g3, g4, g5, g6⟩ | ⟨ca, cb, ha, hb, g1, g2, g3, g4, g5, g6, g7, g8⟩
  · left
    rw [h12, h3, h4, h13, hI, hJ3, hJ4]
    exact ⟨g1, g2, g3, g4, g5, g6⟩
  · right
    have va := hv ca ha
    have vb := hv cb hb
    have hr : rowL Jm2 m nn ca cb = rowL Jm m nn ca cb := rowL_congr (fun v n c e a b => hi v n c (by rcases e with rfl | rfl <;> omega) (by omega) b) hnn
    refine ⟨ca, cb, by omega, by omega, ?_⟩
    rw [h12, h3, h4, h13, hI, hJ3, hJ4, h7, h8, h9, h10, hr, va.1, vb.1, va.2.1, vb.2.1]
    refine ⟨g1, g2, g3, g4, g5, fun i q e => ?_, fun n hn => ?_, g8⟩
    · have := row_lt hnn e
      rw [hi ca _ _ ha (by omega) this.2, hi cb _ _ hb (by omega) this.2]
      exact g6 i q e
    · rw [rC_congr va.2.2 vb.2.2]; exact g7 n hn
theorem hN_congr (h3 : Im2 (m + 3) = Im (m + 3)) (h6 : Im2 (m + 6) = Im (m + 6)) : ∀ v, hN Im2 m nc v = hN Im m nc v := by
  have hal : ∀ w k, fsB Im2 m w k = fsB Im m w k := fun w k => by unfold fsB; rw [h3, h6]
  intro v
  induction v with
  | zero => rfl
  | succ v ih =>
    have : hR Im2 m nc v = hR Im m nc v := by
      unfold hR
      rw [h6, cntP_congr (p := fun k => fsB Im2 m v k) (q := fun k => fsB Im m v k) (fun k _ => hal v k)]
    simp only [hN, ih, this]
/-- the versions stay as they are -/
theorem Cp.side (h : Cp x R I J m Im Jm nn s nc nv ce) (cw : CW x K N R) (hc : ∀ q, x + 8 ≤ q → I2 q = I q ∧ J2 q = J q) (h1 : R2 (x + 1) = R (x + 1)) (hx : ∀ j, j ≠ 12 → I2 x j = I x j)
    (hm3 : Im2 (m + 3) = Im (m + 3)) (hm4 : Im2 (m + 4) = Im (m + 4)) (hm5 : Im2 (m + 5) = Im (m + 5)) (hm6 : Im2 (m + 6) = Im (m + 6)) (hmm : ∀ j, j < 6 → j ≠ 3 → Im2 m j = Im m j) (h3 : Im2 m 3 = I2 x 12) (hj1 : Jm2 (m + 1) = Jm (m + 1)) (hj2 : Jm2 (m + 2) = Jm (m + 2))
    (hR : CpR x R2 I2 J2 m Im2 Jm2 nn nv) (hC : CpC x I2 J2 m Im2) : Cp x R2 I2 J2 m Im2 Jm2 nn s nc nv ce := by
  obtain ⟨hA, hV, hW, hZ, gN, -, -⟩ := h
  have hnv : nv ≤ 60 := hA.1.2.2.2.2.1
  have hi : ∀ v n c, itm Jm2 m v n c = itm Jm m v n c := fun v n c => itm_congr hj1 hj2
  refine ⟨⟨hA.1, ?_, ?_, ?_⟩, fun v hv => ?_, fun v hv => ?_, ?_, ?_, hR, hC⟩
  · rw [hx 5 (by omega), hx 6 (by omega), hx 7 (by omega), hx 8 (by omega), hx 10 (by omega)]; exact hA.2.1
  · rw [hmm 0 (by omega) (by omega), hmm 2 (by omega) (by omega), hmm 4 (by omega) (by omega), hmm 5 (by omega) (by omega)]
    exact ⟨hA.2.2.1.1, hA.2.2.1.2.1, hA.2.2.1.2.2.1, hA.2.2.1.2.2.2.1, h3⟩
  · rw [hmm 1 (by omega) (by omega)]; exact hA.2.2.2
  · obtain ⟨g0, g1, g2, g3⟩ := hV v hv
    have w := cw.wg (by omega) g0
    rw [h1, (hc _ w).1, (hc (R (x + 1) v + 1) (by omega)).2, (hc (R (x + 1) v + 2) (by omega)).2, (hc (R (x + 1) v + 3) (by omega)).1, hm3, hm4, hm5, hm6]
    exact ⟨g0, g1, g2, fun n c a b => by rw [hi]; exact g3 n c a b⟩
  · obtain ⟨g1, g2, g3⟩ := hW v hv
    rw [hm3, hm4]
    exact ⟨fun n c a b d => by rw [hi]; exact g1 n c a b d, g2, g3⟩
  · intro h0
    rw [h1] at h0 ⊢
    have w := cw.wg (by omega) h0
    rw [(hc (R (x + 1) 0 + 1) (by omega)).2, (hc (R (x + 1) 0 + 2) (by omega)).2]
    exact hZ h0
  · obtain ⟨ng, nh, n1, n2, n3, n4⟩ := gN
    refine ⟨ng, nh, by rw [hx 9 (by omega)]; exact n1, ?_, by rw [hx 11 (by omega)]; exact n3, by rw [hN_congr hm3 hm6]; exact n4⟩
    unfold lfN; rw [hm6]; exact n2
theorem st_clock (h : Cp x R I J m Im Jm nn s nc nv ce) (cw : CW x K N R) (qt : Int32) : Cp x R (va_up I x (va_up (I x) 12 qt)) J m (va_up Im m (va_up (Im m) 3 qt)) Jm nn s nc nv ce := by
  have hnn : nn ≤ 64 := h.1.1.1
  have hnv := h.nvle
  have mo : ∀ q, q ≠ 0 → va_up Im m (va_up (Im m) 3 qt) (m + q) = Im (m + q) := fun q hq => va_up_ne _ _ (by omega)
  refine h.side cw (fun q hq => ⟨va_up_ne _ _ (by omega), rfl⟩) rfl (fun j hj => by rw [va_up_self, va_up_ne _ _ hj]) (mo 3 (by omega)) (mo 4 (by omega)) (mo 5 (by omega)) (mo 6 (by omega)) (fun j h1 h2 => by rw [va_up_self, va_up_ne _ _ h2]) (by rw [va_up_self, va_up_self, va_up_self, va_up_self]) rfl rfl ?_ ?_
  · exact h.2.2.2.2.2.1.ext hnn (Nat.le_refl _) rfl rfl (by rw [va_up_ne _ _ (by omega)]) rfl rfl (fun v hv => ⟨rfl, rfl, rfl⟩) (by rw [va_up_self, va_up_ne _ _ (by omega)]) (by rw [va_up_self, va_up_ne _ _ (by omega)]) (mo 7 (by omega)) (mo 8 (by omega)) rfl rfl (fun v n c _ _ _ => rfl)
  · exact h.2.2.2.2.2.2.ext rfl rfl (by rw [va_up_ne _ _ (by omega)]) (by rw [va_up_self, va_up_ne _ _ (by omega)]) (mo 11 (by omega)) (mo 12 (by omega))
theorem rwI_o {q : Nat} {L : List (Nat × Nat)} (h0 : q ≠ 0) (h7 : q ≠ 7) (h8 : q ≠ 8) : rwI Im m L (m + q) = Im (m + q) := by
  unfold rwI; rw [va_up_ne _ _ (by omega), va_up_ne _ _ (by omega), va_up_ne _ _ (by omega)]
theorem rwJ_o {q va vb : Nat} {L : List (Nat × Nat)} (h7 : q ≠ 9) (h8 : q ≠ 10) : rwJ Jm m va vb L (m + q) = Jm (m + q) := by
  unfold rwJ; rw [va_up_ne _ _ (by omega), va_up_ne _ _ (by omega)]
theorem e_rows (h : Cp x R I J m Im Jm nn s nc nv ce) (qv qa : Int32) : (if pL R I x nv qv ∧ pL R I x nv qa then nI (fL (rA J (R (x + 1) qv.toNatClampNeg) (R (x + 1) qa.toNatClampNeg)) (rC J (R (x + 1) qv.toNatClampNeg) (R (x + 1) qa.toNatClampNeg)) nn).length else -1) = (if pV Im m nv qv ∧ pV Im m nv qa then nI (rowL Jm m nn qv.toNatClampNeg qa.toNatClampNeg).length else -1) := by
  by_cases g : pV Im m nv qv ∧ pV Im m nv qa
  · rw [if_pos ⟨(h.pl qv).mpr g.1, (h.pl qa).mpr g.2⟩, if_pos g, h.rowset (A := rA J (R (x + 1) qv.toNatClampNeg) (R (x + 1) qa.toNatClampNeg)) g.1.1.2 g.2.1.2 (fun n hn => ⟨rfl, rfl⟩), List.length_map]
  · rw [if_neg (fun z => g ⟨(h.pl qv).mp z.1, (h.pl qa).mp z.2⟩), if_neg g]
theorem rsJ_o {q k u : Nat} {A Cc : Nat → Int64} (h1 : q ≠ u + 1) (h2 : q ≠ u + 2) : rsJ J u k A Cc q = J q := by
  unfold rsJ; rw [va_up_ne _ _ h2, va_up_ne _ _ h1]
theorem st_rows (h : Cp x R I J m Im Jm nn s nc nv ce) (cw : CW x K N R) {ca cb e : Nat} (ha : ca < nv) (hb : cb < nv) (he : e = (rowL Jm m nn ca cb).length) : Cp x (va_up R x (va_up (va_up (R x) 3 (R (x + 1) ca)) 4 (R (x + 1) cb))) (rsI I (x + 2) e) (rsJ J (x + 2) nn (rA J (R (x + 1) ca) (R (x + 1) cb)) (rC J (R (x + 1) ca) (R (x + 1) cb))) m (rwI Im m (rowL Jm m nn ca cb)) (rwJ Jm m ca cb (rowL Jm m nn ca cb)) nn s nc nv ce := by
  have hnn : nn ≤ 64 := h.1.1.1
  have hnv := h.nvle
  have ga := cw.wg (i := ca) (by omega) (h.hvv ca ha)
  have gb := cw.wg (i := cb) (by omega) (h.hvv cb hb)
  have jo : ∀ q, q ≠ x + 3 → q ≠ x + 4 → rsJ J (x + 2) nn (rA J (R (x + 1) ca) (R (x + 1) cb)) (rC J (R (x + 1) ca) (R (x + 1) cb)) q = J q := fun q h1 h2 => rsJ_o (by omega) (by omega)
  have io : ∀ q, q ≠ x + 2 → rsI I (x + 2) e q = I q := fun q hq => va_up_ne _ _ hq
  have j3 : rsJ J (x + 2) nn (rA J (R (x + 1) ca) (R (x + 1) cb)) (rC J (R (x + 1) ca) (R (x + 1) cb)) (x + 3) = pz nn (rA J (R (x + 1) ca) (R (x + 1) cb)) (J (x + 3)) := by
    unfold rsJ; rw [va_up_ne _ _ (by omega), va_up_self]
  have j4 : rsJ J (x + 2) nn (rA J (R (x + 1) ca) (R (x + 1) cb)) (rC J (R (x + 1) ca) (R (x + 1) cb)) (x + 4) = pz nn (rC J (R (x + 1) ca) (R (x + 1) cb)) (J (x + 4)) := by
    unfold rsJ; rw [va_up_self]
  have r1 : va_up R x (va_up (va_up (R x) 3 (R (x + 1) ca)) 4 (R (x + 1) cb)) (x + 1) = R (x + 1) := va_up_ne _ _ (by omega)
  refine h.side cw (fun q hq => ⟨io q (by omega), jo q (by omega) (by omega)⟩) r1 (fun j hj => by rw [io x (by omega)]) (rwI_o (by omega) (by omega) (by omega)) (rwI_o (by omega) (by omega) (by omega)) (rwI_o (by omega) (by omega) (by omega)) (rwI_o (by omega) (by omega) (by omega)) (fun j h1 h2 => by rw [rwI_m, va_up_ne _ _ (by omega), va_up_ne _ _ (by omega)]) (by rw [rwI_m, va_up_ne _ _ (by omega), va_up_ne _ _ (by omega), io x (by omega)]; exact h.1.2.2.1.2.2.2.2) (rwJ_o (by omega) (by omega)) (rwJ_o (by omega) (by omega)) ?_ ?_
  · right
    have hr : rowL (rwJ Jm m ca cb (rowL Jm m nn ca cb)) m nn ca cb = rowL Jm m nn ca cb := rowL_congr (fun v n c _ _ _ => rwJ_i) hnn
    refine ⟨ca, cb, ha, hb, ?_⟩
    rw [hr, r1, j3, j4, jo _ (by omega) (by omega), jo _ (by omega) (by omega)]
    refine ⟨by rw [rwI_m, va_up_ne _ _ (by omega), va_up_self], ?_, ?_, rwI_13, ?_, fun i q eq => ⟨?_, ?_, ?_, ?_⟩, fun n hn => ⟨?_, ?_⟩, fun n g1 g2 => ⟨?_, ?_⟩⟩
    · rw [va_up_self, va_up_ne _ _ (by omega), va_up_self]
    · rw [va_up_self, va_up_self]
    · unfold rsI; rw [va_up_self, va_up_self, he]
    · unfold rwI; rw [va_up_ne _ _ (by omega), va_up_self]; exact wrL_at eq
    · unfold rwI; rw [va_up_self]; exact wrL_at eq
    · rw [rwJ_i]; unfold rwJ; rw [va_up_ne _ _ (by omega), va_up_self]; exact wrL_at (f := fun q => itm Jm m ca q.1 q.2) eq
    · rw [rwJ_i]; unfold rwJ; rw [va_up_self]; exact wrL_at (f := fun q => itm Jm m cb q.1 q.2) eq
    · simp only [pz, if_pos hn, rA]
    · simp only [pz, if_pos hn]
      exact (rC_congr (jo _ (by omega) (by omega)) (jo _ (by omega) (by omega))).symm
    · simp only [pz, if_neg (show ¬ n < nn by omega), if_pos g2]
    · simp only [pz, if_neg (show ¬ n < nn by omega), if_pos g2]
  · exact h.2.2.2.2.2.2.ext (jo _ (by omega) (by omega)) (jo _ (by omega) (by omega)) (by rw [io _ (by omega)]) (by rw [rwI_m, va_up_ne _ _ (by omega), va_up_ne _ _ (by omega)]) (rwI_o (by omega) (by omega) (by omega)) (rwI_o (by omega) (by omega) (by omega))
/-- the conflicts of a join, on both sides -/
theorem Cp.cfset (h : Cp x R I J m Im Jm nn s nc nv ce) {vo va vb : Nat} (ho : vo < nv) (ha : va < nv) (hb : vb < nv) : fL (fun _ => (0 : Int64)) (tcC J (R (x + 1) vo) (R (x + 1) va) (R (x + 1) vb)) nn = (cfL Jm m nn vo va vb).map (fun q => q.1 * 66 + q.2) := by
  have hnn : nn ≤ 64 := h.1.1.1
  refine set_list hnn (fun n t hn ht => ?_) (fun n c hn hc => ?_)
  · rw [bt0]
    by_cases e : t < nn
    · rw [decide_eq_true e, Bool.true_and]
      symm
      unfold uC
      rw [decide_eq_false_iff_not]
      rintro ⟨z1, z2, z3⟩
      rw [cdp, if_pos e] at z1 z2 z3
      unfold itm at z1 z2 z3
      rw [if_pos ht, if_pos ht] at z1 z2 z3
      rw [it_inj] at z1 z2 z3
      cases q1 : bt (Jm (m + 1) (64 * va + n)) t <;> cases q2 : bt (Jm (m + 1) (64 * vb + n)) t <;> cases q3 : bt (Jm (m + 1) (64 * vo + n)) t <;> simp [q1, q2, q3] at z1 z2 z3
    · rw [decide_eq_false e]; rfl
  · rw [tcC, ucw_bt _ hc]
    by_cases e : c < 2
    · rw [decide_eq_true e, Bool.true_and, Bool.true_and]
      unfold cfB uC
      rw [h.col ho (by omega) e, h.col ha (by omega) e, h.col hb (by omega) e]
      have c0 : cdp nn (nn + c) = 64 + c := by rw [cdp, if_neg (by omega)]; omega
      have ii : ∀ v, itm Jm m v n (64 + c) = Jm (m + 2) (128 * v + 64 * c + n) := fun v => by rw [itm, if_neg (by omega), show 64 + c - 64 = c by omega]
      rw [c0]
      unfold cfl
      rw [ii, ii, ii]
      by_cases z1 : Jm (m + 2) (128 * va + 64 * c + n) = Jm (m + 2) (128 * vo + 64 * c + n) <;> by_cases z2 : Jm (m + 2) (128 * vb + 64 * c + n) = Jm (m + 2) (128 * vo + 64 * c + n) <;> by_cases z3 : Jm (m + 2) (128 * va + 64 * c + n) = Jm (m + 2) (128 * vb + 64 * c + n) <;> simp [z1, z2, z3]
    · rw [decide_eq_false e]; rfl
theorem st_told (h : Cp x R I J m Im Jm nn s nc nv ce) (cw : CW x K N R) {vo va vb e : Nat} (ho : vo < nv) (ha : va < nv) (hb : vb < nv) (he : e = (cfL Jm m nn vo va vb).length) : Cp x R (rsI I (x + 5) e) (tcJ J (x + 5) nn (tcC J (R (x + 1) vo) (R (x + 1) va) (R (x + 1) vb))) m (va_up (cfI Im m (cfL Jm m nn vo va vb)) m (va_up (Im m) 18 (nI (cfL Jm m nn vo va vb).length))) Jm nn s nc nv ce := by
  have hnn : nn ≤ 64 := h.1.1.1
  have hnv := h.nvle
  have jo : ∀ q, q ≠ x + 6 → q ≠ x + 7 → tcJ J (x + 5) nn (tcC J (R (x + 1) vo) (R (x + 1) va) (R (x + 1) vb)) q = J q := fun q h1 h2 => by
    unfold tcJ; rw [va_up_ne _ _ (by omega), va_up_ne _ _ (by omega)]
  have io : ∀ q, q ≠ x + 5 → rsI I (x + 5) e q = I q := fun q hq => va_up_ne _ _ hq
  have mo : ∀ q, q ≠ 0 → q ≠ 11 → q ≠ 12 → va_up (cfI Im m (cfL Jm m nn vo va vb)) m (va_up (Im m) 18 (nI (cfL Jm m nn vo va vb).length)) (m + q) = Im (m + q) := fun q h1 h2 h3 => by
    rw [va_up_ne _ _ (by omega), cfI_o (by omega) (by omega)]
  have m0 : ∀ j, j ≠ 18 → va_up (cfI Im m (cfL Jm m nn vo va vb)) m (va_up (Im m) 18 (nI (cfL Jm m nn vo va vb).length)) m j = Im m j := fun j hj => by
    rw [va_up_self, va_up_ne _ _ hj]
  refine h.side cw (fun q hq => ⟨io q (by omega), jo q (by omega) (by omega)⟩) rfl (fun j hj => by rw [io x (by omega)]) (mo 3 (by omega) (by omega) (by omega)) (mo 4 (by omega) (by omega) (by omega)) (mo 5 (by omega) (by omega) (by omega)) (mo 6 (by omega) (by omega) (by omega)) (fun j h1 h2 => m0 j (by omega)) (by rw [m0 3 (by omega), io x (by omega)]; exact h.1.2.2.1.2.2.2.2) rfl rfl ?_ ?_
  · exact h.2.2.2.2.2.1.ext hnn (Nat.le_refl _) rfl rfl (by rw [io _ (by omega)]) (jo _ (by omega) (by omega)) (jo _ (by omega) (by omega)) (fun v hv => by
      have g := cw.wg (i := v) (by omega) (h.hvv v hv)
      exact ⟨rfl, jo _ (by omega) (by omega), jo _ (by omega) (by omega)⟩) (m0 12 (by omega)) (m0 13 (by omega)) (mo 7 (by omega) (by omega) (by omega)) (mo 8 (by omega) (by omega) (by omega)) rfl rfl (fun v n c _ _ _ => rfl)
  · refine ⟨cfL Jm m nn vo va vb, ?_, fun i q eq => ?_, ?_, ?_, ?_⟩
    · have := lstP_len (q := nodL (uC Jm m nn vo va vb) nn) (b := nn + 2) (fun f => nodL_len) nn
      have h2 : nn * (nn + 2) ≤ 64 * 66 := Nat.mul_le_mul hnn (by omega)
      unfold cfL
      omega
    · have e1 := nod_mem hnn eq
      refine ⟨by omega, e1.2.1, ?_, ?_⟩
      · rw [va_up_ne _ _ (by omega)]; unfold cfI; rw [va_up_ne _ _ (by omega), va_up_self]; exact wrL_at eq
      · rw [va_up_ne _ _ (by omega)]; unfold cfI; rw [va_up_self]; exact wrL_at eq
    · have z6 : ∀ n, n < 64 → tcJ J (x + 5) nn (tcC J (R (x + 1) vo) (R (x + 1) va) (R (x + 1) vb)) (x + 6) n = 0 := fun n hn => by
        unfold tcJ; rw [va_up_ne _ _ (by omega), va_up_self, if_pos hn]
      have z7 : tcJ J (x + 5) nn (tcC J (R (x + 1) vo) (R (x + 1) va) (R (x + 1) vb)) (x + 7) = pz nn (tcC J (R (x + 1) vo) (R (x + 1) va) (R (x + 1) vb)) (J (x + 7)) := by
        unfold tcJ; rw [va_up_self]
      rw [z7, fL_cut hnn (fun n g1 g2 => ⟨z6 n g2, by simp only [pz, if_neg (show ¬ n < nn by omega), if_pos g2]⟩), ← h.cfset ho ha hb]
      exact fL_ext fun n hn => ⟨z6 n (by omega), by simp only [pz, if_pos hn]⟩
    · unfold rsI; rw [va_up_self, va_up_self, he]
    · rw [va_up_self, va_up_self]
end
