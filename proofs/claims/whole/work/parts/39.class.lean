/-! The class: join -/
theorem cntP_t {p : Nat → Bool} {k : Nat} (h : p k = true) : cntP p (k + 1) = cntP p k + 1 := by simp [cntP, h]
theorem cntP_f {p : Nat → Bool} {k : Nat} (h : p k = false) : cntP p (k + 1) = cntP p k := by simp [cntP, h]
section
variable {l : Launch} {D : va_G} {X : State → Prop} {own nm : String} {cc : ByteArray} {nL d mc ms : Nat} {K0 : Nat → Nat} {sz0 : Nat} {Z : ZT} {pc : Nat} {L st : List Value} {K N : Nat → Nat} {R : Nat → Nat → Nat} {I : Nat → Nat → Int32} {J : Nat → Nat → Int64} {sz kc ks : Nat}
theorem x_eqz {Z' : ZT} (h : ∀ v K N R I J sz, Z' v K N R I J sz → Z v K N R I J sz) (kk : XW l D X own nm cc nL d mc ms K0 sz0 Z' pc L st K N R I J sz kc ks) : XW l D X own nm cc nL d mc ms K0 sz0 Z pc L st K N R I J sz kc ks := by
  intro p e Rm s m args below meth c H locs cells slots Q ls hC hH hl hE
  exact kk p e Rm s m args below meth c H locs cells slots Q ls hC hH hl (fun v K N R I J sz H locs cells slots pc ls hz => hE v K N R I J sz H locs cells slots pc ls (h v K N R I J sz hz))
end
set_option maxHeartbeats 8000000 in
theorem c_X2_join (l : Launch) (D : va_G) {K N : Nat → Nat} {R : Nat → Nat → Nat} {I : Nat → Nat → Int32} {J : Nat → Nat → Int64} {sz : Nat} {x : Nat} (cw : CW x K N R) {nv : Nat} (h8 : I x 8 = nI nv) (hnv : nv ≤ 60) (hvv : ∀ i, i < nv → R (x + 1) i ≠ 0) {nn : Nat} (h5 : I x 5 = nI nn) (hnn : nn ≤ 64) {s : Nat} (h6 : I x 6 = nI s) (hs0 : 0 < s) (hs : s ≤ 64) {nc : Nat} (h7 : I x 7 = nI nc) (hnc : nc ≤ 64) (hkc : ∀ k, k < nc → k * s < nn) (qo qa qb : Int32) : XM l D yX2_join cX2_join 9 (some .int) 4 4 263 [.ref x, .int qo, .int qa, .int qb] K N R I J sz (fun v K' N' R' I' J' sz' => v = some (.int (if pL R I x nv qo ∧ pL R I x nv qa ∧ pL R I x nv qb then (if anyP (cfB J (R (x + 1) qo.toNatClampNeg) (R (x + 1) qa.toNatClampNeg) (R (x + 1) qb.toNatClampNeg)) (nn * 2) = true then -10 - nI (fL (fun _ => (0 : Int64)) (tcC J (R (x + 1) qo.toNatClampNeg) (R (x + 1) qa.toNatClampNeg) (R (x + 1) qb.toNatClampNeg)) nn).length else chA nv) else -1)) ∧ (if (pL R I x nv qo ∧ pL R I x nv qa ∧ pL R I x nv qb) ∧ anyP (cfB J (R (x + 1) qo.toNatClampNeg) (R (x + 1) qa.toNatClampNeg) (R (x + 1) qb.toNatClampNeg)) (nn * 2) = true then Sm K N R (rsI I (x + 5) (fL (fun _ => (0 : Int64)) (tcC J (R (x + 1) qo.toNatClampNeg) (R (x + 1) qa.toNatClampNeg) (R (x + 1) qb.toNatClampNeg)) nn).length) (tcJ J (x + 5) nn (tcC J (R (x + 1) qo.toNatClampNeg) (R (x + 1) qa.toNatClampNeg) (R (x + 1) qb.toNatClampNeg))) sz K' N' R' I' J' sz' else if (pL R I x nv qo ∧ pL R I x nv qa ∧ pL R I x nv qb) ∧ nv < 60 then ∃ r : Nat, NV x nv r (jiA (J (R (x + 1) qa.toNatClampNeg + 1)) (J (R (x + 1) qo.toNatClampNeg + 1)) (J (R (x + 1) qb.toNatClampNeg + 1)) nn) (jiC (J (R (x + 1) qa.toNatClampNeg + 2)) (J (R (x + 1) qo.toNatClampNeg + 2)) (J (R (x + 1) qb.toNatClampNeg + 2)) (nn * 2)) (jnD (I (R (x + 1) qo.toNatClampNeg + 3)) (I (R (x + 1) qa.toNatClampNeg + 3)) (I (R (x + 1) qb.toNatClampNeg + 3)) (I x 10) (fun j => !neK (jiA (J (R (x + 1) qa.toNatClampNeg + 1)) (J (R (x + 1) qo.toNatClampNeg + 1)) (J (R (x + 1) qb.toNatClampNeg + 1)) nn) (jiC (J (R (x + 1) qa.toNatClampNeg + 2)) (J (R (x + 1) qo.toNatClampNeg + 2)) (J (R (x + 1) qb.toNatClampNeg + 2)) (nn * 2)) (J (R (x + 1) qa.toNatClampNeg + 1)) (J (R (x + 1) qa.toNatClampNeg + 2)) s nn j) (fun j => !neK (jiA (J (R (x + 1) qa.toNatClampNeg + 1)) (J (R (x + 1) qo.toNatClampNeg + 1)) (J (R (x + 1) qb.toNatClampNeg + 1)) nn) (jiC (J (R (x + 1) qa.toNatClampNeg + 2)) (J (R (x + 1) qo.toNatClampNeg + 2)) (J (R (x + 1) qb.toNatClampNeg + 2)) (nn * 2)) (J (R (x + 1) qb.toNatClampNeg + 1)) (J (R (x + 1) qb.toNatClampNeg + 2)) s nn j) (fun j => cjF (I (R (x + 1) qo.toNatClampNeg + 3) j) (I (R (x + 1) qa.toNatClampNeg + 3) j) (I (R (x + 1) qb.toNatClampNeg + 3) j) (!neK (jiA (J (R (x + 1) qa.toNatClampNeg + 1)) (J (R (x + 1) qo.toNatClampNeg + 1)) (J (R (x + 1) qb.toNatClampNeg + 1)) nn) (jiC (J (R (x + 1) qa.toNatClampNeg + 2)) (J (R (x + 1) qo.toNatClampNeg + 2)) (J (R (x + 1) qb.toNatClampNeg + 2)) (nn * 2)) (J (R (x + 1) qa.toNatClampNeg + 1)) (J (R (x + 1) qa.toNatClampNeg + 2)) s nn j) (!neK (jiA (J (R (x + 1) qa.toNatClampNeg + 1)) (J (R (x + 1) qo.toNatClampNeg + 1)) (J (R (x + 1) qb.toNatClampNeg + 1)) nn) (jiC (J (R (x + 1) qa.toNatClampNeg + 2)) (J (R (x + 1) qo.toNatClampNeg + 2)) (J (R (x + 1) qb.toNatClampNeg + 2)) (nn * 2)) (J (R (x + 1) qb.toNatClampNeg + 1)) (J (R (x + 1) qb.toNatClampNeg + 2)) s nn j)) nc) (I (R (x + 1) qa.toNatClampNeg) 0) (I x 10 + nI (cntP (fun j => cjF (I (R (x + 1) qo.toNatClampNeg + 3) j) (I (R (x + 1) qa.toNatClampNeg + 3) j) (I (R (x + 1) qb.toNatClampNeg + 3) j) (!neK (jiA (J (R (x + 1) qa.toNatClampNeg + 1)) (J (R (x + 1) qo.toNatClampNeg + 1)) (J (R (x + 1) qb.toNatClampNeg + 1)) nn) (jiC (J (R (x + 1) qa.toNatClampNeg + 2)) (J (R (x + 1) qo.toNatClampNeg + 2)) (J (R (x + 1) qb.toNatClampNeg + 2)) (nn * 2)) (J (R (x + 1) qa.toNatClampNeg + 1)) (J (R (x + 1) qa.toNatClampNeg + 2)) s nn j) (!neK (jiA (J (R (x + 1) qa.toNatClampNeg + 1)) (J (R (x + 1) qo.toNatClampNeg + 1)) (J (R (x + 1) qb.toNatClampNeg + 1)) nn) (jiC (J (R (x + 1) qa.toNatClampNeg + 2)) (J (R (x + 1) qo.toNatClampNeg + 2)) (J (R (x + 1) qb.toNatClampNeg + 2)) (nn * 2)) (J (R (x + 1) qb.toNatClampNeg + 1)) (J (R (x + 1) qb.toNatClampNeg + 2)) s nn j)) nc)) K N R I J sz K' N' R' I' J' sz' else Sm K N R I J sz K' N' R' I' J' sz')) := by
  refine XM.of (own := RX2) (nm := "join") (by decide +kernel) rfl rfl (by simp [xla, Value.category]) [.ref x, .int qo, .int qa, .int qb, .null, .null, .null, .null, .null] rfl (by rintro v K N R I J sz ⟨h, -⟩; exact ⟨_, h⟩) ?_
  refine x_aload_n dX2_join_0 rfl ?_
  refine x_iload_n dX2_join_1 rfl ?_
  refine x_eV (c_X2_living l D cw h8 hnv hvv _) dX2_join_2 lk_X2_67 im_X2_living se_X2_living cd_X2_living (by decide) cw.k vcX2 rfl (by decide) rfl (by first | decide | simp [Value.category]) ?_
  refine x_astore dX2_join_5 (by decide) rfl ?_
  refine x_aload_n dX2_join_7 rfl ?_
  refine x_iload_n dX2_join_8 rfl ?_
  refine x_eV (c_X2_living l D cw h8 hnv hvv _) dX2_join_9 lk_X2_67 im_X2_living se_X2_living cd_X2_living (by decide) cw.k vcX2 rfl (by decide) rfl (by first | decide | simp [Value.category]) ?_
  refine x_astore dX2_join_12 (by decide) rfl ?_
  refine x_aload_n dX2_join_14 rfl ?_
  refine x_iload_n dX2_join_15 rfl ?_
  refine x_eV (c_X2_living l D cw h8 hnv hvv _) dX2_join_16 lk_X2_67 im_X2_living se_X2_living cd_X2_living (by decide) cw.k vcX2 rfl (by decide) rfl (by first | decide | simp [Value.category]) ?_
  refine x_astore dX2_join_19 (by decide) rfl ?_
  refine x_aload dX2_join_21 rfl ?_
  refine x_ifnull 36 dX2_join_23 (by decide) (fun c23 => ?_) (fun c23 => ?_)
  · have c23 := liv_n (fun z => hvv _ z.1.2) c23
    have hG : ¬ (pL R I x nv qo ∧ pL R I x nv qa ∧ pL R I x nv qb) := fun z => c23 z.1
    refine x_iconst (v := (-1)) dX2_join_36 (by decide +kernel) ?_
    refine x_zi dX2_join_37 ⟨by rw [if_neg hG], ?_⟩
    rw [if_neg (fun z => hG z.1), if_neg (fun z => hG z.1)]
    exact Sm.rf
  · have ho : pL R I x nv qo := liv_s c23
    simp only [if_pos ho]
    obtain ⟨oj, hbo, rfl⟩ := pN_ex ho.1
    have hco : (nI oj).toNatClampNeg = oj := nI_clamp (by omega)
    simp only [hco]
    have hwo := cw.wv (show oj < 60 by omega) (hvv oj hbo)
    refine x_aload dX2_join_26 rfl ?_
    refine x_ifnull 36 dX2_join_28 (by decide) (fun c28 => ?_) (fun c28 => ?_)
    · have c28 := liv_n (fun z => hvv _ z.1.2) c28
      have hG : ¬ (pL R I x nv (nI oj) ∧ pL R I x nv qa ∧ pL R I x nv qb) := fun z => c28 z.2.1
      refine x_iconst (v := (-1)) dX2_join_36 (by decide +kernel) ?_
      refine x_zi dX2_join_37 ⟨by rw [if_neg hG], ?_⟩
      rw [if_neg (fun z => hG z.1), if_neg (fun z => hG z.1)]
      exact Sm.rf
    · have ha : pL R I x nv qa := liv_s c28
      simp only [if_pos ha]
      obtain ⟨aj, hba, rfl⟩ := pN_ex ha.1
      have hca : (nI aj).toNatClampNeg = aj := nI_clamp (by omega)
      simp only [hca]
      have hwa := cw.wv (show aj < 60 by omega) (hvv aj hba)
      refine x_aload dX2_join_31 rfl ?_
      refine x_ifnonnull 38 dX2_join_33 (by decide) (fun c33 => ?_) (fun c33 => ?_)
      · have hb : pL R I x nv qb := liv_s c33
        simp only [if_pos hb]
        obtain ⟨bj, hbb, rfl⟩ := pN_ex hb.1
        have hcb : (nI bj).toNatClampNeg = bj := nI_clamp (by omega)
        simp only [hcb]
        have hwb := cw.wv (show bj < 60 by omega) (hvv bj hbb)
        have hG : pL R I x nv (nI oj) ∧ pL R I x nv (nI aj) ∧ pL R I x nv (nI bj) := ⟨ho, ha, hb⟩
        refine x_eqz (Z' := fun v K' N' R' I' J' sz' => v = some (.int (if anyP (cfB J (R (x + 1) oj) (R (x + 1) aj) (R (x + 1) bj)) (nn * 2) = true then -10 - nI (fL (fun _ => (0 : Int64)) (tcC J (R (x + 1) oj) (R (x + 1) aj) (R (x + 1) bj)) nn).length else chA nv)) ∧ (if (pL R I x nv (nI oj) ∧ pL R I x nv (nI aj) ∧ pL R I x nv (nI bj)) ∧ anyP (cfB J (R (x + 1) oj) (R (x + 1) aj) (R (x + 1) bj)) (nn * 2) = true then Sm K N R (rsI I (x + 5) (fL (fun _ => (0 : Int64)) (tcC J (R (x + 1) oj) (R (x + 1) aj) (R (x + 1) bj)) nn).length) (tcJ J (x + 5) nn (tcC J (R (x + 1) oj) (R (x + 1) aj) (R (x + 1) bj))) sz K' N' R' I' J' sz' else if (pL R I x nv (nI oj) ∧ pL R I x nv (nI aj) ∧ pL R I x nv (nI bj)) ∧ nv < 60 then ∃ r : Nat, NV x nv r (jiA (J (R (x + 1) aj + 1)) (J (R (x + 1) oj + 1)) (J (R (x + 1) bj + 1)) nn) (jiC (J (R (x + 1) aj + 2)) (J (R (x + 1) oj + 2)) (J (R (x + 1) bj + 2)) (nn * 2)) (jnD (I (R (x + 1) oj + 3)) (I (R (x + 1) aj + 3)) (I (R (x + 1) bj + 3)) (I x 10) (fun j => !neK (jiA (J (R (x + 1) aj + 1)) (J (R (x + 1) oj + 1)) (J (R (x + 1) bj + 1)) nn) (jiC (J (R (x + 1) aj + 2)) (J (R (x + 1) oj + 2)) (J (R (x + 1) bj + 2)) (nn * 2)) (J (R (x + 1) aj + 1)) (J (R (x + 1) aj + 2)) s nn j) (fun j => !neK (jiA (J (R (x + 1) aj + 1)) (J (R (x + 1) oj + 1)) (J (R (x + 1) bj + 1)) nn) (jiC (J (R (x + 1) aj + 2)) (J (R (x + 1) oj + 2)) (J (R (x + 1) bj + 2)) (nn * 2)) (J (R (x + 1) bj + 1)) (J (R (x + 1) bj + 2)) s nn j) (fun j => cjF (I (R (x + 1) oj + 3) j) (I (R (x + 1) aj + 3) j) (I (R (x + 1) bj + 3) j) (!neK (jiA (J (R (x + 1) aj + 1)) (J (R (x + 1) oj + 1)) (J (R (x + 1) bj + 1)) nn) (jiC (J (R (x + 1) aj + 2)) (J (R (x + 1) oj + 2)) (J (R (x + 1) bj + 2)) (nn * 2)) (J (R (x + 1) aj + 1)) (J (R (x + 1) aj + 2)) s nn j) (!neK (jiA (J (R (x + 1) aj + 1)) (J (R (x + 1) oj + 1)) (J (R (x + 1) bj + 1)) nn) (jiC (J (R (x + 1) aj + 2)) (J (R (x + 1) oj + 2)) (J (R (x + 1) bj + 2)) (nn * 2)) (J (R (x + 1) bj + 1)) (J (R (x + 1) bj + 2)) s nn j)) nc) (I (R (x + 1) aj) 0) (I x 10 + nI (cntP (fun j => cjF (I (R (x + 1) oj + 3) j) (I (R (x + 1) aj + 3) j) (I (R (x + 1) bj + 3) j) (!neK (jiA (J (R (x + 1) aj + 1)) (J (R (x + 1) oj + 1)) (J (R (x + 1) bj + 1)) nn) (jiC (J (R (x + 1) aj + 2)) (J (R (x + 1) oj + 2)) (J (R (x + 1) bj + 2)) (nn * 2)) (J (R (x + 1) aj + 1)) (J (R (x + 1) aj + 2)) s nn j) (!neK (jiA (J (R (x + 1) aj + 1)) (J (R (x + 1) oj + 1)) (J (R (x + 1) bj + 1)) nn) (jiC (J (R (x + 1) aj + 2)) (J (R (x + 1) oj + 2)) (J (R (x + 1) bj + 2)) (nn * 2)) (J (R (x + 1) bj + 1)) (J (R (x + 1) bj + 2)) s nn j)) nc)) K N R I J sz K' N' R' I' J' sz' else Sm K N R I J sz K' N' R' I' J' sz')) (fun v K' N' R' I' J' sz' hz => ⟨by rw [if_pos hG]; exact hz.1, hz.2⟩) ?_
        refine x_aload_n dX2_join_38 rfl ?_
        refine x_aload dX2_join_39 rfl ?_
        refine x_aload dX2_join_41 rfl ?_
        refine x_aload dX2_join_43 rfl ?_
        refine x_eV (c_X2_hasConflict l D cw hwo hwa hwb h5 hnn) dX2_join_45 lk_X2_161 im_X2_hasConflict se_X2_hasConflict cd_X2_hasConflict (by decide) cw.k vcX2 rfl (by decide) rfl (by first | decide | simp [Value.category]) ?_
        refine x_if_eq 72 dX2_join_48 (by decide) (fun c48 => ?_) (fun c48 => ?_)
        · rw [bI_e0] at c48
          have hcf : ¬ anyP (cfB J (R (x + 1) oj) (R (x + 1) aj) (R (x + 1) bj)) (nn * 2) = true := c48
          rcases Nat.lt_or_ge nv 60 with hl | hl
          · refine x_aload_n dX2_join_72 rfl ?_
            refine x_aload dX2_join_73 rfl ?_
            refine x_cV (c_X2_makeFrom l D cw h8 hl (oi := aj) hba (hvv aj hba)) dX2_join_75 lk_X2_78 im_X2_makeFrom se_X2_makeFrom cd_X2_makeFrom (by decide) cw.k vcX2 rfl (by decide) rfl (by first | decide | simp [Value.category]) ?_
            rintro v K1 N1 R1 I1 J1 sz1 ⟨r, rfl, n0⟩ -
            have cw0 := n0.cw
            have hr := n0.vw
            have g0 := n0.ge
            have ho0 := n0.vo (show oj ≠ nv by omega) (by omega) (hvv oj hbo)
            have hb0 := n0.vo (show bj ≠ nv by omega) (by omega) (hvv bj hbb)
            have hapo := n0.apart (show oj ≠ nv by omega) (by omega) (hvv oj hbo)
            have hapb := n0.apart (show bj ≠ nv by omega) (by omega) (hvv bj hbb)
            have oldo := n0.old cw (show oj ≠ nv by omega) (by omega) (hvv oj hbo)
            have oldb := n0.old cw (show bj ≠ nv by omega) (by omega) (hvv bj hbb)
            have i5 : I1 x 5 = nI nn := by rw [n0.2.2.2.2.1]; simp [va_up, h5]
            obtain ⟨J2, hJ2⟩ : ∃ J2, J2 = jiJ J1 r (R (x + 1) oj) (R (x + 1) bj) nn (nn * 2) := ⟨_, rfl⟩
            have n2 : NV x nv r (jiA (J (R (x + 1) aj + 1)) (J (R (x + 1) oj + 1)) (J (R (x + 1) bj + 1)) nn) (jiC (J (R (x + 1) aj + 2)) (J (R (x + 1) oj + 2)) (J (R (x + 1) bj + 2)) (nn * 2)) (I (R (x + 1) aj + 3)) (I (R (x + 1) aj) 0) (I x 10) K N R I J sz K1 N1 R1 I1 J2 sz1 := by
              rw [hJ2, jiJ]
              refine (n0.setA (fun n hn => ?_)).setC (fun n hn => ?_)
              · simp only [jiA]; rw [n0.2.2.2.2.2.2.2.1 n hn, oldo.2.1, oldb.2.1]
              · simp only [jiC]; rw [n0.2.2.2.2.2.2.2.2.1 n hn, oldo.2.2.1, oldb.2.2.1]
            have loop : ∀ (t k : Nat), t + k = nc → ∀ Ii : Nat → Nat → Int32, NV x nv r (jiA (J (R (x + 1) aj + 1)) (J (R (x + 1) oj + 1)) (J (R (x + 1) bj + 1)) nn) (jiC (J (R (x + 1) aj + 2)) (J (R (x + 1) oj + 2)) (J (R (x + 1) bj + 2)) (nn * 2)) (jnD (I (R (x + 1) oj + 3)) (I (R (x + 1) aj + 3)) (I (R (x + 1) bj + 3)) (I x 10) (fun j => !neK (jiA (J (R (x + 1) aj + 1)) (J (R (x + 1) oj + 1)) (J (R (x + 1) bj + 1)) nn) (jiC (J (R (x + 1) aj + 2)) (J (R (x + 1) oj + 2)) (J (R (x + 1) bj + 2)) (nn * 2)) (J (R (x + 1) aj + 1)) (J (R (x + 1) aj + 2)) s nn j) (fun j => !neK (jiA (J (R (x + 1) aj + 1)) (J (R (x + 1) oj + 1)) (J (R (x + 1) bj + 1)) nn) (jiC (J (R (x + 1) aj + 2)) (J (R (x + 1) oj + 2)) (J (R (x + 1) bj + 2)) (nn * 2)) (J (R (x + 1) bj + 1)) (J (R (x + 1) bj + 2)) s nn j) (fun j => cjF (I (R (x + 1) oj + 3) j) (I (R (x + 1) aj + 3) j) (I (R (x + 1) bj + 3) j) (!neK (jiA (J (R (x + 1) aj + 1)) (J (R (x + 1) oj + 1)) (J (R (x + 1) bj + 1)) nn) (jiC (J (R (x + 1) aj + 2)) (J (R (x + 1) oj + 2)) (J (R (x + 1) bj + 2)) (nn * 2)) (J (R (x + 1) aj + 1)) (J (R (x + 1) aj + 2)) s nn j) (!neK (jiA (J (R (x + 1) aj + 1)) (J (R (x + 1) oj + 1)) (J (R (x + 1) bj + 1)) nn) (jiC (J (R (x + 1) aj + 2)) (J (R (x + 1) oj + 2)) (J (R (x + 1) bj + 2)) (nn * 2)) (J (R (x + 1) bj + 1)) (J (R (x + 1) bj + 2)) s nn j)) k) (I (R (x + 1) aj) 0) (I x 10 + nI (cntP (fun j => cjF (I (R (x + 1) oj + 3) j) (I (R (x + 1) aj + 3) j) (I (R (x + 1) bj + 3) j) (!neK (jiA (J (R (x + 1) aj + 1)) (J (R (x + 1) oj + 1)) (J (R (x + 1) bj + 1)) nn) (jiC (J (R (x + 1) aj + 2)) (J (R (x + 1) oj + 2)) (J (R (x + 1) bj + 2)) (nn * 2)) (J (R (x + 1) aj + 1)) (J (R (x + 1) aj + 2)) s nn j) (!neK (jiA (J (R (x + 1) aj + 1)) (J (R (x + 1) oj + 1)) (J (R (x + 1) bj + 1)) nn) (jiC (J (R (x + 1) aj + 2)) (J (R (x + 1) oj + 2)) (J (R (x + 1) bj + 2)) (nn * 2)) (J (R (x + 1) bj + 1)) (J (R (x + 1) bj + 2)) s nn j)) k)) K N R I J sz K1 N1 R1 Ii J2 sz1 → XW l D (fun _ => True) RX2 "join" cX2_join 9 4 4 263 K sz (fun v K' N' R' I' J' sz' => v = some (.int (if anyP (cfB J (R (x + 1) oj) (R (x + 1) aj) (R (x + 1) bj)) (nn * 2) = true then -10 - nI (fL (fun _ => (0 : Int64)) (tcC J (R (x + 1) oj) (R (x + 1) aj) (R (x + 1) bj)) nn).length else chA nv)) ∧ (if (pL R I x nv (nI oj) ∧ pL R I x nv (nI aj) ∧ pL R I x nv (nI bj)) ∧ anyP (cfB J (R (x + 1) oj) (R (x + 1) aj) (R (x + 1) bj)) (nn * 2) = true then Sm K N R (rsI I (x + 5) (fL (fun _ => (0 : Int64)) (tcC J (R (x + 1) oj) (R (x + 1) aj) (R (x + 1) bj)) nn).length) (tcJ J (x + 5) nn (tcC J (R (x + 1) oj) (R (x + 1) aj) (R (x + 1) bj))) sz K' N' R' I' J' sz' else if (pL R I x nv (nI oj) ∧ pL R I x nv (nI aj) ∧ pL R I x nv (nI bj)) ∧ nv < 60 then ∃ r : Nat, NV x nv r (jiA (J (R (x + 1) aj + 1)) (J (R (x + 1) oj + 1)) (J (R (x + 1) bj + 1)) nn) (jiC (J (R (x + 1) aj + 2)) (J (R (x + 1) oj + 2)) (J (R (x + 1) bj + 2)) (nn * 2)) (jnD (I (R (x + 1) oj + 3)) (I (R (x + 1) aj + 3)) (I (R (x + 1) bj + 3)) (I x 10) (fun j => !neK (jiA (J (R (x + 1) aj + 1)) (J (R (x + 1) oj + 1)) (J (R (x + 1) bj + 1)) nn) (jiC (J (R (x + 1) aj + 2)) (J (R (x + 1) oj + 2)) (J (R (x + 1) bj + 2)) (nn * 2)) (J (R (x + 1) aj + 1)) (J (R (x + 1) aj + 2)) s nn j) (fun j => !neK (jiA (J (R (x + 1) aj + 1)) (J (R (x + 1) oj + 1)) (J (R (x + 1) bj + 1)) nn) (jiC (J (R (x + 1) aj + 2)) (J (R (x + 1) oj + 2)) (J (R (x + 1) bj + 2)) (nn * 2)) (J (R (x + 1) bj + 1)) (J (R (x + 1) bj + 2)) s nn j) (fun j => cjF (I (R (x + 1) oj + 3) j) (I (R (x + 1) aj + 3) j) (I (R (x + 1) bj + 3) j) (!neK (jiA (J (R (x + 1) aj + 1)) (J (R (x + 1) oj + 1)) (J (R (x + 1) bj + 1)) nn) (jiC (J (R (x + 1) aj + 2)) (J (R (x + 1) oj + 2)) (J (R (x + 1) bj + 2)) (nn * 2)) (J (R (x + 1) aj + 1)) (J (R (x + 1) aj + 2)) s nn j) (!neK (jiA (J (R (x + 1) aj + 1)) (J (R (x + 1) oj + 1)) (J (R (x + 1) bj + 1)) nn) (jiC (J (R (x + 1) aj + 2)) (J (R (x + 1) oj + 2)) (J (R (x + 1) bj + 2)) (nn * 2)) (J (R (x + 1) bj + 1)) (J (R (x + 1) bj + 2)) s nn j)) nc) (I (R (x + 1) aj) 0) (I x 10 + nI (cntP (fun j => cjF (I (R (x + 1) oj + 3) j) (I (R (x + 1) aj + 3) j) (I (R (x + 1) bj + 3) j) (!neK (jiA (J (R (x + 1) aj + 1)) (J (R (x + 1) oj + 1)) (J (R (x + 1) bj + 1)) nn) (jiC (J (R (x + 1) aj + 2)) (J (R (x + 1) oj + 2)) (J (R (x + 1) bj + 2)) (nn * 2)) (J (R (x + 1) aj + 1)) (J (R (x + 1) aj + 2)) s nn j) (!neK (jiA (J (R (x + 1) aj + 1)) (J (R (x + 1) oj + 1)) (J (R (x + 1) bj + 1)) nn) (jiC (J (R (x + 1) aj + 2)) (J (R (x + 1) oj + 2)) (J (R (x + 1) bj + 2)) (nn * 2)) (J (R (x + 1) bj + 1)) (J (R (x + 1) bj + 2)) s nn j)) nc)) K N R I J sz K' N' R' I' J' sz' else Sm K N R I J sz K' N' R' I' J' sz')) 101 [.ref x, .int (nI oj), .int (nI aj), .int (nI bj), .ref (R (x + 1) oj), .ref (R (x + 1) aj), .ref (R (x + 1) bj), .ref r, .int (nI k)] [] K1 N1 R1 (Ii) (J2) sz1 0 0 := by
              intro t
              induction t with
              | zero =>
                intro k hk Ii n1
                have cw1 := n1.cw
                have hr := n1.vw
                have g := n1.ge
                have hx : Ii x = va_up (va_up (I x) 8 (nI (nv + 1))) 10 (I x 10 + nI (cntP (fun j => cjF (I (R (x + 1) oj + 3) j) (I (R (x + 1) aj + 3) j) (I (R (x + 1) bj + 3) j) (!neK (jiA (J (R (x + 1) aj + 1)) (J (R (x + 1) oj + 1)) (J (R (x + 1) bj + 1)) nn) (jiC (J (R (x + 1) aj + 2)) (J (R (x + 1) oj + 2)) (J (R (x + 1) bj + 2)) (nn * 2)) (J (R (x + 1) aj + 1)) (J (R (x + 1) aj + 2)) s nn j) (!neK (jiA (J (R (x + 1) aj + 1)) (J (R (x + 1) oj + 1)) (J (R (x + 1) bj + 1)) nn) (jiC (J (R (x + 1) aj + 2)) (J (R (x + 1) oj + 2)) (J (R (x + 1) bj + 2)) (nn * 2)) (J (R (x + 1) bj + 1)) (J (R (x + 1) bj + 2)) s nn j)) k)) := n1.2.2.2.2.1
                have i7 : Ii x 7 = nI nc := by rw [hx]; simp [va_up, h7]
                refine x_iload dX2_join_101 rfl ?_
                refine x_aload_n dX2_join_103 rfl ?_
                refine x_geti dX2_join_104 fl_X2_32 cw1.k rfl ?_
                refine x_icmp_ge 138 dX2_join_107 (by decide) (fun c107 => ?_) (fun c107 => ?_)
                · obtain rfl : nc = k := by omega
                  refine x_aload dX2_join_138 rfl ?_
                  refine x_geti dX2_join_140 fl_X2_102 hr.k rfl ?_
                  refine x_zi dX2_join_143 ⟨by rw [if_neg hcf, chA, if_neg (by omega), n1.2.2.2.2.2.2.1.1], ?_⟩
                  rw [if_neg (fun z => hcf z.2), if_pos ⟨hG, hl⟩]
                  exact ⟨r, n1⟩
                · exact absurd (by rw [i7]; exact nI_le (by omega) (by omega)) c107
              | succ t ih =>
                intro k hk Ii n1
                have cw1 := n1.cw
                have hr := n1.vw
                have g := n1.ge
                have hx : Ii x = va_up (va_up (I x) 8 (nI (nv + 1))) 10 (I x 10 + nI (cntP (fun j => cjF (I (R (x + 1) oj + 3) j) (I (R (x + 1) aj + 3) j) (I (R (x + 1) bj + 3) j) (!neK (jiA (J (R (x + 1) aj + 1)) (J (R (x + 1) oj + 1)) (J (R (x + 1) bj + 1)) nn) (jiC (J (R (x + 1) aj + 2)) (J (R (x + 1) oj + 2)) (J (R (x + 1) bj + 2)) (nn * 2)) (J (R (x + 1) aj + 1)) (J (R (x + 1) aj + 2)) s nn j) (!neK (jiA (J (R (x + 1) aj + 1)) (J (R (x + 1) oj + 1)) (J (R (x + 1) bj + 1)) nn) (jiC (J (R (x + 1) aj + 2)) (J (R (x + 1) oj + 2)) (J (R (x + 1) bj + 2)) (nn * 2)) (J (R (x + 1) bj + 1)) (J (R (x + 1) bj + 2)) s nn j)) k)) := n1.2.2.2.2.1
                have i7 : Ii x 7 = nI nc := by rw [hx]; simp [va_up, h7]
                have i5 : Ii x 5 = nI nn := by rw [hx]; simp [va_up, h5]
                have i6 : Ii x 6 = nI s := by rw [hx]; simp [va_up, h6]
                have i10 : Ii x 10 = I x 10 + nI (cntP (fun j => cjF (I (R (x + 1) oj + 3) j) (I (R (x + 1) aj + 3) j) (I (R (x + 1) bj + 3) j) (!neK (jiA (J (R (x + 1) aj + 1)) (J (R (x + 1) oj + 1)) (J (R (x + 1) bj + 1)) nn) (jiC (J (R (x + 1) aj + 2)) (J (R (x + 1) oj + 2)) (J (R (x + 1) bj + 2)) (nn * 2)) (J (R (x + 1) aj + 1)) (J (R (x + 1) aj + 2)) s nn j) (!neK (jiA (J (R (x + 1) aj + 1)) (J (R (x + 1) oj + 1)) (J (R (x + 1) bj + 1)) nn) (jiC (J (R (x + 1) aj + 2)) (J (R (x + 1) oj + 2)) (J (R (x + 1) bj + 2)) (nn * 2)) (J (R (x + 1) bj + 1)) (J (R (x + 1) bj + 2)) s nn j)) k) := by rw [hx]; simp [va_up]
                have ho := n1.vo (show oj ≠ nv by omega) (by omega) (hvv oj hbo)
                have ha := n1.vo (show aj ≠ nv by omega) (by omega) (hvv aj hba)
                have hb := n1.vo (show bj ≠ nv by omega) (by omega) (hvv bj hbb)
                have oldo := n1.old cw (show oj ≠ nv by omega) (by omega) (hvv oj hbo)
                have olda := n1.old cw (show aj ≠ nv by omega) (by omega) (hvv aj hba)
                have oldb := n1.old cw (show bj ≠ nv by omega) (by omega) (hvv bj hbb)
                have haka : anyP (akB J2 r (R (x + 1) aj) s k) nn = neK (jiA (J (R (x + 1) aj + 1)) (J (R (x + 1) oj + 1)) (J (R (x + 1) bj + 1)) nn) (jiC (J (R (x + 1) aj + 2)) (J (R (x + 1) oj + 2)) (J (R (x + 1) bj + 2)) (nn * 2)) (J (R (x + 1) aj + 1)) (J (R (x + 1) aj + 2)) s nn k := by
                  rw [akB_F, olda.2.1, olda.2.2.1]
                  exact akF_congr hnn n1.2.2.2.2.2.2.2.1 n1.2.2.2.2.2.2.2.2.1
                have hakb : anyP (akB J2 r (R (x + 1) bj) s k) nn = neK (jiA (J (R (x + 1) aj + 1)) (J (R (x + 1) oj + 1)) (J (R (x + 1) bj + 1)) nn) (jiC (J (R (x + 1) aj + 2)) (J (R (x + 1) oj + 2)) (J (R (x + 1) bj + 2)) (nn * 2)) (J (R (x + 1) bj + 1)) (J (R (x + 1) bj + 2)) s nn k := by
                  rw [akB_F, oldb.2.1, oldb.2.2.1]
                  exact akF_congr hnn n1.2.2.2.2.2.2.2.1 n1.2.2.2.2.2.2.2.2.1
                have hc := c_X2_chooseJoinedChunk l D (sz := sz1) (I := Ii) (J := J2) cw1 hr ho ha hb i5 hnn (s := s) (k := k) i6 hs0 hs (by omega) (hkc k (by omega))
                rw [oldo.2.2.2, olda.2.2.2, oldb.2.2.2, haka, hakb, i10] at hc
                obtain ⟨cf, hcf⟩ : ∃ cf, cf = (fun j => cjF (I (R (x + 1) oj + 3) j) (I (R (x + 1) aj + 3) j) (I (R (x + 1) bj + 3) j) (!neK (jiA (J (R (x + 1) aj + 1)) (J (R (x + 1) oj + 1)) (J (R (x + 1) bj + 1)) nn) (jiC (J (R (x + 1) aj + 2)) (J (R (x + 1) oj + 2)) (J (R (x + 1) bj + 2)) (nn * 2)) (J (R (x + 1) aj + 1)) (J (R (x + 1) aj + 2)) s nn j) (!neK (jiA (J (R (x + 1) aj + 1)) (J (R (x + 1) oj + 1)) (J (R (x + 1) bj + 1)) nn) (jiC (J (R (x + 1) aj + 2)) (J (R (x + 1) oj + 2)) (J (R (x + 1) bj + 2)) (nn * 2)) (J (R (x + 1) bj + 1)) (J (R (x + 1) bj + 2)) s nn j)) k := ⟨_, rfl⟩
                obtain ⟨cv, hcv⟩ : ∃ cv, cv = cjV (I (R (x + 1) oj + 3) k) (I (R (x + 1) aj + 3) k) (I (R (x + 1) bj + 3) k) (I x 10 + nI (cntP (fun j => cjF (I (R (x + 1) oj + 3) j) (I (R (x + 1) aj + 3) j) (I (R (x + 1) bj + 3) j) (!neK (jiA (J (R (x + 1) aj + 1)) (J (R (x + 1) oj + 1)) (J (R (x + 1) bj + 1)) nn) (jiC (J (R (x + 1) aj + 2)) (J (R (x + 1) oj + 2)) (J (R (x + 1) bj + 2)) (nn * 2)) (J (R (x + 1) aj + 1)) (J (R (x + 1) aj + 2)) s nn j) (!neK (jiA (J (R (x + 1) aj + 1)) (J (R (x + 1) oj + 1)) (J (R (x + 1) bj + 1)) nn) (jiC (J (R (x + 1) aj + 2)) (J (R (x + 1) oj + 2)) (J (R (x + 1) bj + 2)) (nn * 2)) (J (R (x + 1) bj + 1)) (J (R (x + 1) bj + 2)) s nn j)) k)) ((fun j => !neK (jiA (J (R (x + 1) aj + 1)) (J (R (x + 1) oj + 1)) (J (R (x + 1) bj + 1)) nn) (jiC (J (R (x + 1) aj + 2)) (J (R (x + 1) oj + 2)) (J (R (x + 1) bj + 2)) (nn * 2)) (J (R (x + 1) aj + 1)) (J (R (x + 1) aj + 2)) s nn j) k) ((fun j => !neK (jiA (J (R (x + 1) aj + 1)) (J (R (x + 1) oj + 1)) (J (R (x + 1) bj + 1)) nn) (jiC (J (R (x + 1) aj + 2)) (J (R (x + 1) oj + 2)) (J (R (x + 1) bj + 2)) (nn * 2)) (J (R (x + 1) bj + 1)) (J (R (x + 1) bj + 2)) s nn j) k) := ⟨_, rfl⟩
                obtain ⟨Ik, hIk⟩ : ∃ Ik, Ik = if cf = true then va_up Ii x (va_up (Ii x) 10 (I x 10 + nI (cntP (fun j => cjF (I (R (x + 1) oj + 3) j) (I (R (x + 1) aj + 3) j) (I (R (x + 1) bj + 3) j) (!neK (jiA (J (R (x + 1) aj + 1)) (J (R (x + 1) oj + 1)) (J (R (x + 1) bj + 1)) nn) (jiC (J (R (x + 1) aj + 2)) (J (R (x + 1) oj + 2)) (J (R (x + 1) bj + 2)) (nn * 2)) (J (R (x + 1) aj + 1)) (J (R (x + 1) aj + 2)) s nn j) (!neK (jiA (J (R (x + 1) aj + 1)) (J (R (x + 1) oj + 1)) (J (R (x + 1) bj + 1)) nn) (jiC (J (R (x + 1) aj + 2)) (J (R (x + 1) oj + 2)) (J (R (x + 1) bj + 2)) (nn * 2)) (J (R (x + 1) bj + 1)) (J (R (x + 1) bj + 2)) s nn j)) k) + 1)) else Ii := ⟨_, rfl⟩
                have hc : XM l D yX2_chooseJoinedChunk cX2_chooseJoinedChunk 9 (some .int) 2 0 0 [.ref x, .ref r, .ref (R (x + 1) oj), .ref (R (x + 1) aj), .ref (R (x + 1) bj), .int (nI k)] K1 N1 R1 Ii J2 sz1 (Zx (some (.int cv)) K1 N1 R1 Ik J2 sz1) := by
                  rw [hcv, hIk, hcf]; exact hc
                have nq : NV x nv r (jiA (J (R (x + 1) aj + 1)) (J (R (x + 1) oj + 1)) (J (R (x + 1) bj + 1)) nn) (jiC (J (R (x + 1) aj + 2)) (J (R (x + 1) oj + 2)) (J (R (x + 1) bj + 2)) (nn * 2)) (jnD (I (R (x + 1) oj + 3)) (I (R (x + 1) aj + 3)) (I (R (x + 1) bj + 3)) (I x 10) (fun j => !neK (jiA (J (R (x + 1) aj + 1)) (J (R (x + 1) oj + 1)) (J (R (x + 1) bj + 1)) nn) (jiC (J (R (x + 1) aj + 2)) (J (R (x + 1) oj + 2)) (J (R (x + 1) bj + 2)) (nn * 2)) (J (R (x + 1) aj + 1)) (J (R (x + 1) aj + 2)) s nn j) (fun j => !neK (jiA (J (R (x + 1) aj + 1)) (J (R (x + 1) oj + 1)) (J (R (x + 1) bj + 1)) nn) (jiC (J (R (x + 1) aj + 2)) (J (R (x + 1) oj + 2)) (J (R (x + 1) bj + 2)) (nn * 2)) (J (R (x + 1) bj + 1)) (J (R (x + 1) bj + 2)) s nn j) (fun j => cjF (I (R (x + 1) oj + 3) j) (I (R (x + 1) aj + 3) j) (I (R (x + 1) bj + 3) j) (!neK (jiA (J (R (x + 1) aj + 1)) (J (R (x + 1) oj + 1)) (J (R (x + 1) bj + 1)) nn) (jiC (J (R (x + 1) aj + 2)) (J (R (x + 1) oj + 2)) (J (R (x + 1) bj + 2)) (nn * 2)) (J (R (x + 1) aj + 1)) (J (R (x + 1) aj + 2)) s nn j) (!neK (jiA (J (R (x + 1) aj + 1)) (J (R (x + 1) oj + 1)) (J (R (x + 1) bj + 1)) nn) (jiC (J (R (x + 1) aj + 2)) (J (R (x + 1) oj + 2)) (J (R (x + 1) bj + 2)) (nn * 2)) (J (R (x + 1) bj + 1)) (J (R (x + 1) bj + 2)) s nn j)) k) (I (R (x + 1) aj) 0) (I x 10 + nI (cntP (fun j => cjF (I (R (x + 1) oj + 3) j) (I (R (x + 1) aj + 3) j) (I (R (x + 1) bj + 3) j) (!neK (jiA (J (R (x + 1) aj + 1)) (J (R (x + 1) oj + 1)) (J (R (x + 1) bj + 1)) nn) (jiC (J (R (x + 1) aj + 2)) (J (R (x + 1) oj + 2)) (J (R (x + 1) bj + 2)) (nn * 2)) (J (R (x + 1) aj + 1)) (J (R (x + 1) aj + 2)) s nn j) (!neK (jiA (J (R (x + 1) aj + 1)) (J (R (x + 1) oj + 1)) (J (R (x + 1) bj + 1)) nn) (jiC (J (R (x + 1) aj + 2)) (J (R (x + 1) oj + 2)) (J (R (x + 1) bj + 2)) (nn * 2)) (J (R (x + 1) bj + 1)) (J (R (x + 1) bj + 2)) s nn j)) (k + 1))) K N R I J sz K1 N1 R1 Ik J2 sz1 := by
                  rw [hIk]
                  cases hb9 : cf with
                  | true =>
                    rw [if_pos rfl]
                    exact n1.setE (by rw [ce_1, ← cntP_t (hcf.symm.trans hb9)])
                  | false =>
                    rw [if_neg (by decide)]
                    have : cntP (fun j => cjF (I (R (x + 1) oj + 3) j) (I (R (x + 1) aj + 3) j) (I (R (x + 1) bj + 3) j) (!neK (jiA (J (R (x + 1) aj + 1)) (J (R (x + 1) oj + 1)) (J (R (x + 1) bj + 1)) nn) (jiC (J (R (x + 1) aj + 2)) (J (R (x + 1) oj + 2)) (J (R (x + 1) bj + 2)) (nn * 2)) (J (R (x + 1) aj + 1)) (J (R (x + 1) aj + 2)) s nn j) (!neK (jiA (J (R (x + 1) aj + 1)) (J (R (x + 1) oj + 1)) (J (R (x + 1) bj + 1)) nn) (jiC (J (R (x + 1) aj + 2)) (J (R (x + 1) oj + 2)) (J (R (x + 1) bj + 2)) (nn * 2)) (J (R (x + 1) bj + 1)) (J (R (x + 1) bj + 2)) s nn j)) (k + 1) = cntP (fun j => cjF (I (R (x + 1) oj + 3) j) (I (R (x + 1) aj + 3) j) (I (R (x + 1) bj + 3) j) (!neK (jiA (J (R (x + 1) aj + 1)) (J (R (x + 1) oj + 1)) (J (R (x + 1) bj + 1)) nn) (jiC (J (R (x + 1) aj + 2)) (J (R (x + 1) oj + 2)) (J (R (x + 1) bj + 2)) (nn * 2)) (J (R (x + 1) aj + 1)) (J (R (x + 1) aj + 2)) s nn j) (!neK (jiA (J (R (x + 1) aj + 1)) (J (R (x + 1) oj + 1)) (J (R (x + 1) bj + 1)) nn) (jiC (J (R (x + 1) aj + 2)) (J (R (x + 1) oj + 2)) (J (R (x + 1) bj + 2)) (nn * 2)) (J (R (x + 1) bj + 1)) (J (R (x + 1) bj + 2)) s nn j)) k := cntP_f (hcf.symm.trans hb9)
                    rw [this]; exact n1
                have n9 := ih (k + 1) (by omega) (va_up Ik (r + 3) (va_up (Ik (r + 3)) k cv)) (by
                  rw [jnD_s]
                  refine nq.setD (fun n hn => ?_)
                  by_cases e : n = k
                  · subst e; rw [va_up_self, va_up_self, hcv]
                  · rw [va_up_ne _ _ e, va_up_ne _ _ e]; exact nq.2.2.2.2.2.2.2.2.2.1 n hn)
                refine x_iload dX2_join_101 rfl ?_
                refine x_aload_n dX2_join_103 rfl ?_
                refine x_geti dX2_join_104 fl_X2_32 cw1.k rfl ?_
                refine x_icmp_ge 138 dX2_join_107 (by decide) (fun c107 => ?_) (fun c107 => ?_)
                · rw [i7] at c107; exact absurd c107 (nI_ge (by omega) (by omega))
                · refine x_aload dX2_join_110 rfl ?_
                  refine x_getq dX2_join_112 fl_X2_90 hr.k hr.r6 rfl ?_
                  refine x_iload dX2_join_115 rfl ?_
                  refine x_aload_n dX2_join_117 rfl ?_
                  refine x_aload dX2_join_118 rfl ?_
                  refine x_aload dX2_join_120 rfl ?_
                  refine x_aload dX2_join_122 rfl ?_
                  refine x_aload dX2_join_124 rfl ?_
                  refine x_iload dX2_join_126 rfl ?_
                  refine x_eV (hc) dX2_join_128 lk_X2_171 im_X2_chooseJoinedChunk se_X2_chooseJoinedChunk cd_X2_chooseJoinedChunk (by decide) cw1.k vcX2 rfl (by decide) rfl (by first | decide | simp [Value.category]) ?_
                  refine x_iast (k) dX2_join_131 hr.k6 hr.n6 rfl (by omega) (by decide) ?_
                  refine x_iinc dX2_join_132 rfl rfl (by decide) rfl ?_
                  refine x_goto 101 dX2_join_135 (by decide) ?_
                  exact x_eql (by show [_, _, _, _, _, _, _, _, Value.int _] = _; simp [nI_1]) n9
            refine x_astore dX2_join_78 (by decide) rfl ?_
            refine x_aload dX2_join_80 rfl ?_
            refine x_ifnonnull 88 dX2_join_82 (by decide) (fun c82 => ?_) (fun c82 => ?_)
            · refine x_aload_n dX2_join_88 rfl ?_
              refine x_aload dX2_join_89 rfl ?_
              refine x_aload dX2_join_91 rfl ?_
              refine x_aload dX2_join_93 rfl ?_
              refine x_eW (c_X2_joinItems l D cw0 hr ho0 hb0 i5 hnn hapo hapb) dX2_join_95 lk_X2_168 im_X2_joinItems se_X2_joinItems cd_X2_joinItems (by decide) cw0.k vcX2 rfl (by decide) rfl (by first | decide | simp [Value.category]) ?_
              rw [← hJ2]
              refine x_iconst (v := (0)) dX2_join_98 (by decide +kernel) ?_
              refine x_istore dX2_join_99 (by decide) rfl ?_
              exact x_eql rfl (loop nc 0 rfl I1 (by rw [jnD_0, show I x 10 + nI (cntP (fun j => cjF (I (R (x + 1) oj + 3) j) (I (R (x + 1) aj + 3) j) (I (R (x + 1) bj + 3) j) (!neK (jiA (J (R (x + 1) aj + 1)) (J (R (x + 1) oj + 1)) (J (R (x + 1) bj + 1)) nn) (jiC (J (R (x + 1) aj + 2)) (J (R (x + 1) oj + 2)) (J (R (x + 1) bj + 2)) (nn * 2)) (J (R (x + 1) aj + 1)) (J (R (x + 1) aj + 2)) s nn j) (!neK (jiA (J (R (x + 1) aj + 1)) (J (R (x + 1) oj + 1)) (J (R (x + 1) bj + 1)) nn) (jiC (J (R (x + 1) aj + 2)) (J (R (x + 1) oj + 2)) (J (R (x + 1) bj + 2)) (nn * 2)) (J (R (x + 1) bj + 1)) (J (R (x + 1) bj + 2)) s nn j)) 0) = I x 10 from Int32.add_zero _]; exact n2))
            · exact absurd c82 n0.2.1
          · obtain rfl : nv = 60 := by omega
            refine x_aload_n dX2_join_72 rfl ?_
            refine x_aload dX2_join_73 rfl ?_
            refine x_eV (c_X2_makeFromF l D cw h8) dX2_join_75 lk_X2_78 im_X2_makeFrom se_X2_makeFrom cd_X2_makeFrom (by decide) cw.k vcX2 rfl (by decide) rfl (by first | decide | simp [Value.category]) ?_
            refine x_astore dX2_join_78 (by decide) rfl ?_
            refine x_aload dX2_join_80 rfl ?_
            refine x_ifnonnull 88 dX2_join_82 (by decide) (fun c82 => ?_) (fun c82 => ?_)
            · exact absurd rfl c82
            · refine x_bipush (v := (-3)) dX2_join_85 (by decide +kernel) ?_
              refine x_zi dX2_join_87 ⟨by rw [if_neg hcf]; rfl, ?_⟩
              rw [if_neg (fun z => hcf z.2), if_neg (fun z => by omega)]
              exact Sm.rf
        · rw [bI_n0] at c48
          have hcf : anyP (cfB J (R (x + 1) oj) (R (x + 1) aj) (R (x + 1) bj)) (nn * 2) = true := c48
          refine x_aload_n dX2_join_51 rfl ?_
          refine x_aload dX2_join_52 rfl ?_
          refine x_aload dX2_join_54 rfl ?_
          refine x_aload dX2_join_56 rfl ?_
          refine x_eW (c_X2_tellConflicts l D cw hwo hwa hwb h5 hnn (cw.wg (by omega) (hvv oj hbo)) (cw.wg (by omega) (hvv aj hba)) (cw.wg (by omega) (hvv bj hbb))) dX2_join_58 lk_X2_164 im_X2_tellConflicts se_X2_tellConflicts cd_X2_tellConflicts (by decide) cw.k vcX2 rfl (by decide) rfl (by first | decide | simp [Value.category]) ?_
          refine x_bipush (v := (-10)) dX2_join_61 (by decide +kernel) ?_
          refine x_aload_n dX2_join_63 rfl ?_
          refine x_getq dX2_join_64 fl_X2_22 cw.k cw.r2 rfl ?_
          refine x_geti dX2_join_67 fl_X2_139 cw.wc.k rfl ?_
          refine x_isub dX2_join_70 ?_
          refine x_zi dX2_join_71 ⟨?_, ?_⟩
          · rw [if_pos hcf]
            simp [rsI, va_up]
          · rw [if_pos ⟨hG, hcf⟩]
            exact Sm.rf
      · have c33 := liv_n (fun z => hvv _ z.1.2) c33
        have hG : ¬ (pL R I x nv (nI oj) ∧ pL R I x nv (nI aj) ∧ pL R I x nv qb) := fun z => c33 z.2.2
        refine x_iconst (v := (-1)) dX2_join_36 (by decide +kernel) ?_
        refine x_zi dX2_join_37 ⟨by rw [if_neg hG], ?_⟩
        rw [if_neg (fun z => hG z.1), if_neg (fun z => hG z.1)]
        exact Sm.rf
