/-! The class: put, take, set, graph -/
section
variable {l : Launch} {D : va_G} {X : State → Prop} {own nm : String} {cc : ByteArray} {nL d mc ms : Nat} {K0 : Nat → Nat} {sz0 : Nat} {Z : ZT} {pc : Nat} {L st : List Value} {K N : Nat → Nat} {R : Nat → Nat → Nat} {I : Nat → Nat → Int32} {J : Nat → Nat → Int64} {sz kc ks : Nat}
theorem x_gen (kk : ∀ (R' : Nat → Nat → Nat) (I' : Nat → Nat → Int32) (J' : Nat → Nat → Int64), R' = R → I' = I → J' = J → XW l D X own nm cc nL d mc ms K0 sz0 Z pc L st K N R' I' J' sz kc ks) : XW l D X own nm cc nL d mc ms K0 sz0 Z pc L st K N R I J sz kc ks := kk R I J rfl rfl rfl
end
theorem CW.putc {x k q : Nat} {K N : Nat → Nat} {R : Nat → Nat → Nat} (cw : CW x K N R) (hk : 3 ≤ k) : CW x K N (va_up R x (va_up (R x) k q)) := by
  have kp : ∀ u, u ≠ x → va_up R x (va_up (R x) k q) u = R u := fun u hu => va_up_ne _ _ hu
  have k0 : ∀ j, j < 3 → va_up R x (va_up (R x) k q) x j = R x j := fun j hj => by rw [va_up_self, va_up_ne _ _ (by omega)]
  refine ⟨cw.k, ⟨by rw [k0 0 (by omega)]; exact cw.r0, cw.k0, cw.n0⟩, by rw [k0 1 (by omega)]; exact cw.r1, by rw [k0 2 (by omega)]; exact cw.r2, ?_, ?_, ?_, ?_⟩
  · unfold UW; rw [kp _ (by omega)]; exact cw.wu
  · unfold UW; rw [kp _ (by omega)]; exact cw.wc
  · intro i hi
    rw [kp (x + 1) (by omega)]
    by_cases z : R (x + 1) i = 0
    · exact Or.inl z
    · have g := cw.wg hi z
      refine Or.inr ⟨g, ?_⟩
      unfold VW
      rw [kp _ (by omega)]
      exact cw.wv hi z
  · intro i j hi hj
    rw [kp (x + 1) (by omega)]
    exact cw.wa hi hj
set_option maxHeartbeats 4000000 in
theorem c_X2_put (l : Launch) (D : va_G) {K N : Nat → Nat} {R : Nat → Nat → Nat} {I : Nat → Nat → Int32} {J : Nat → Nat → Int64} {sz : Nat} {x : Nat} (cw : CW x K N R) {nv : Nat} (h8 : I x 8 = nI nv) (hnv : nv ≤ 60) (hvv : ∀ i, i < nv → R (x + 1) i ≠ 0) {nn : Nat} (h5 : I x 5 = nI nn) (hnn : nn ≤ 64) {s : Nat} (h6 : I x 6 = nI s) (hs0 : 0 < s) (hs : s ≤ 64) (qv qa qb : Int32) : XM l D yX2_put cX2_put 4 (some .int) 5 4 263 [.ref x, .int qv, .int qa, .int qb] K N R I J sz (fun v K' N' R' I' J' sz' => v = some (.int (if pL R I x nv qv ∧ pN nn qa ∧ pN nn qb then (if bt (J (R (x + 1) qv.toNatClampNeg + 1) qa.toNatClampNeg) qb.toNatClampNeg = true then -2 else chA nv) else -1)) ∧ (if (pL R I x nv qv ∧ pN nn qa ∧ pN nn qb) ∧ ¬ bt (J (R (x + 1) qv.toNatClampNeg + 1) qa.toNatClampNeg) qb.toNatClampNeg = true ∧ nv < 60 then ∃ r : Nat, NV x nv r (va_up (J (R (x + 1) qv.toNatClampNeg + 1)) qa.toNatClampNeg (J (R (x + 1) qv.toNatClampNeg + 1) qa.toNatClampNeg ^^^ (1 : Int64) <<< (qb.toInt64 &&& 63))) (J (R (x + 1) qv.toNatClampNeg + 2)) (va_up (I (R (x + 1) qv.toNatClampNeg + 3)) (qa.toNatClampNeg / s) (I x 10)) (I (R (x + 1) qv.toNatClampNeg) 0) (I x 10 + 1) K N R I J sz K' N' R' I' J' sz' else Sm K N R I J sz K' N' R' I' J' sz')) := by
  refine XM.of (own := RX2) (nm := "put") (by decide +kernel) rfl rfl (by simp [xla, Value.category]) [.ref x, .int qv, .int qa, .int qb] rfl (by rintro v K N R I J sz ⟨h, -⟩; exact ⟨_, h⟩) ?_
  refine x_aload_n dX2_put_0 rfl ?_
  refine x_iload_n dX2_put_1 rfl ?_
  refine x_iload_n dX2_put_2 rfl ?_
  refine x_iload_n dX2_put_3 rfl ?_
  refine x_iconst (v := (1)) dX2_put_4 (by decide +kernel) ?_
  refine x_cV (c_X2_changeArc l D cw h8 hnv hvv h5 hnn h6 hs0 hs qv qa qb true) dX2_put_5 lk_X2_63 im_X2_changeArc se_X2_changeArc cd_X2_changeArc (by decide) cw.k vcX2 rfl (by decide) rfl (by first | decide | simp [Value.category]) ?_
  rintro v K1 N1 R1 I1 J1 sz1 ⟨rfl, hz⟩ -
  exact x_zi dX2_put_8 ⟨rfl, hz⟩
set_option maxHeartbeats 4000000 in
theorem c_X2_take (l : Launch) (D : va_G) {K N : Nat → Nat} {R : Nat → Nat → Nat} {I : Nat → Nat → Int32} {J : Nat → Nat → Int64} {sz : Nat} {x : Nat} (cw : CW x K N R) {nv : Nat} (h8 : I x 8 = nI nv) (hnv : nv ≤ 60) (hvv : ∀ i, i < nv → R (x + 1) i ≠ 0) {nn : Nat} (h5 : I x 5 = nI nn) (hnn : nn ≤ 64) {s : Nat} (h6 : I x 6 = nI s) (hs0 : 0 < s) (hs : s ≤ 64) (qv qa qb : Int32) : XM l D yX2_take cX2_take 4 (some .int) 5 4 263 [.ref x, .int qv, .int qa, .int qb] K N R I J sz (fun v K' N' R' I' J' sz' => v = some (.int (if pL R I x nv qv ∧ pN nn qa ∧ pN nn qb then (if bt (J (R (x + 1) qv.toNatClampNeg + 1) qa.toNatClampNeg) qb.toNatClampNeg = false then -2 else chA nv) else -1)) ∧ (if (pL R I x nv qv ∧ pN nn qa ∧ pN nn qb) ∧ ¬ bt (J (R (x + 1) qv.toNatClampNeg + 1) qa.toNatClampNeg) qb.toNatClampNeg = false ∧ nv < 60 then ∃ r : Nat, NV x nv r (va_up (J (R (x + 1) qv.toNatClampNeg + 1)) qa.toNatClampNeg (J (R (x + 1) qv.toNatClampNeg + 1) qa.toNatClampNeg ^^^ (1 : Int64) <<< (qb.toInt64 &&& 63))) (J (R (x + 1) qv.toNatClampNeg + 2)) (va_up (I (R (x + 1) qv.toNatClampNeg + 3)) (qa.toNatClampNeg / s) (I x 10)) (I (R (x + 1) qv.toNatClampNeg) 0) (I x 10 + 1) K N R I J sz K' N' R' I' J' sz' else Sm K N R I J sz K' N' R' I' J' sz')) := by
  refine XM.of (own := RX2) (nm := "take") (by decide +kernel) rfl rfl (by simp [xla, Value.category]) [.ref x, .int qv, .int qa, .int qb] rfl (by rintro v K N R I J sz ⟨h, -⟩; exact ⟨_, h⟩) ?_
  refine x_aload_n dX2_take_0 rfl ?_
  refine x_iload_n dX2_take_1 rfl ?_
  refine x_iload_n dX2_take_2 rfl ?_
  refine x_iload_n dX2_take_3 rfl ?_
  refine x_iconst (v := (0)) dX2_take_4 (by decide +kernel) ?_
  refine x_cV (c_X2_changeArc l D cw h8 hnv hvv h5 hnn h6 hs0 hs qv qa qb false) dX2_take_5 lk_X2_63 im_X2_changeArc se_X2_changeArc cd_X2_changeArc (by decide) cw.k vcX2 rfl (by decide) rfl (by first | decide | simp [Value.category]) ?_
  rintro v K1 N1 R1 I1 J1 sz1 ⟨rfl, hz⟩ -
  exact x_zi dX2_take_8 ⟨rfl, hz⟩
set_option maxHeartbeats 4000000 in
theorem c_X2_set (l : Launch) (D : va_G) {K N : Nat → Nat} {R : Nat → Nat → Nat} {I : Nat → Nat → Int32} {J : Nat → Nat → Int64} {sz : Nat} {x : Nat} (cw : CW x K N R) {nv : Nat} (h8 : I x 8 = nI nv) (hnv : nv ≤ 60) (hvv : ∀ i, i < nv → R (x + 1) i ≠ 0) {nn : Nat} (h5 : I x 5 = nI nn) (hnn : nn ≤ 64) {s : Nat} (h6 : I x 6 = nI s) (hs0 : 0 < s) (hs : s ≤ 64) (qv qa qb : Int32) (w : Int64) : XM l D yX2_set cX2_set 8 (some .int) 4 4 263 [.ref x, .int qv, .int qa, .int qb, .long w] K N R I J sz (fun v K' N' R' I' J' sz' => v = some (.int (if pL R I x nv qv ∧ (¬ qa < 0 ∧ ¬ 1 < qa) ∧ pN nn qb then chA nv else -1)) ∧ (if (pL R I x nv qv ∧ (¬ qa < 0 ∧ ¬ 1 < qa) ∧ pN nn qb) ∧ nv < 60 then ∃ r : Nat, NV x nv r (J (R (x + 1) qv.toNatClampNeg + 1)) (if J (R (x + 1) qv.toNatClampNeg + 2) (qb.toNatClampNeg * 2 + qa.toNatClampNeg) ≠ w then va_up (J (R (x + 1) qv.toNatClampNeg + 2)) (qb.toNatClampNeg * 2 + qa.toNatClampNeg) w else J (R (x + 1) qv.toNatClampNeg + 2)) (if J (R (x + 1) qv.toNatClampNeg + 2) (qb.toNatClampNeg * 2 + qa.toNatClampNeg) ≠ w then va_up (I (R (x + 1) qv.toNatClampNeg + 3)) (qb.toNatClampNeg / s) (I x 10) else I (R (x + 1) qv.toNatClampNeg + 3)) (I (R (x + 1) qv.toNatClampNeg) 0) (if J (R (x + 1) qv.toNatClampNeg + 2) (qb.toNatClampNeg * 2 + qa.toNatClampNeg) ≠ w then I x 10 + 1 else I x 10) K N R I J sz K' N' R' I' J' sz' else Sm K N R I J sz K' N' R' I' J' sz')) := by
  refine XM.of (own := RX2) (nm := "set") (by decide +kernel) rfl rfl (by simp [xla, Value.category]) [.ref x, .int qv, .int qa, .int qb, .long w, .null, .null, .null] rfl (by rintro v K N R I J sz ⟨h, -⟩; exact ⟨_, h⟩) ?_
  refine x_aload_n dX2_set_0 rfl ?_
  refine x_iload_n dX2_set_1 rfl ?_
  refine x_eV (c_X2_living l D cw h8 hnv hvv _) dX2_set_2 lk_X2_67 im_X2_living se_X2_living cd_X2_living (by decide) cw.k vcX2 rfl (by decide) rfl (by first | decide | simp [Value.category]) ?_
  refine x_astore dX2_set_5 (by decide) rfl ?_
  refine x_aload dX2_set_7 rfl ?_
  refine x_ifnull 27 dX2_set_9 (by decide) (fun c9 => ?_) (fun c9 => ?_)
  · have c9 := liv_n (fun z => hvv _ z.1.2) c9
    have hG : ¬ (pL R I x nv qv ∧ (¬ qa < 0 ∧ ¬ 1 < qa) ∧ pN nn qb) := fun z => c9 z.1
    refine x_iconst (v := (-1)) dX2_set_27 (by decide +kernel) ?_
    refine x_zi dX2_set_28 ⟨by rw [if_neg hG], ?_⟩
    rw [if_neg (fun z => hG z.1)]
    exact Sm.rf
  · have hv : pL R I x nv qv := liv_s c9
    simp only [if_pos hv]
    obtain ⟨vj, hbv, rfl⟩ := pN_ex hv.1
    have hcv : (nI vj).toNatClampNeg = vj := nI_clamp (by omega)
    simp only [hcv]
    have hw := cw.wv (show vj < 60 by omega) (hvv vj hbv)
    refine x_iload_n dX2_set_12 rfl ?_
    refine x_eS (c_X2_isColumn l D _) dX2_set_13 lk_X2_71 st_X2_isColumn cd_X2_isColumn rfl (by decide) rfl (by first | decide | simp [Value.category]) ?_
    refine x_if_eq 27 dX2_set_16 (by decide) (fun c16 => ?_) (fun c16 => ?_)
    · rw [bI_e0] at c16
      have hG : ¬ (pL R I x nv (nI vj) ∧ (¬ qa < 0 ∧ ¬ 1 < qa) ∧ pN nn qb) := fun z => c16 z.2.1
      refine x_iconst (v := (-1)) dX2_set_27 (by decide +kernel) ?_
      refine x_zi dX2_set_28 ⟨by rw [if_neg hG], ?_⟩
      rw [if_neg (fun z => hG z.1)]
      exact Sm.rf
    · rw [bI_n0] at c16
      obtain ⟨aj, haj, rfl⟩ := in01 c16
      refine x_aload_n dX2_set_19 rfl ?_
      refine x_iload_n dX2_set_20 rfl ?_
      refine x_eV (c_X2_isNode l D cw h5 hnn _) dX2_set_21 lk_X2_75 im_X2_isNode se_X2_isNode cd_X2_isNode (by decide) cw.k vcX2 rfl (by decide) rfl (by first | decide | simp [Value.category]) ?_
      refine x_if_ne 29 dX2_set_24 (by decide) (fun c24 => ?_) (fun c24 => ?_)
      · rw [bI_n0] at c24
        obtain ⟨bj, hbj, rfl⟩ := pN_ex c24
        have hG : pL R I x nv (nI vj) ∧ (¬ (nI aj) < 0 ∧ ¬ 1 < (nI aj)) ∧ pN nn (nI bj) := ⟨hv, c16, c24⟩
        simp only [clz (show aj < 64 by omega), clz (show bj < 64 by omega)]
        rcases Nat.lt_or_ge nv 60 with hl | hl
        · refine x_aload_n dX2_set_29 rfl ?_
          refine x_aload dX2_set_30 rfl ?_
          refine x_cV (c_X2_makeFrom l D cw h8 hl (oi := vj) hbv (hvv vj hbv)) dX2_set_32 lk_X2_78 im_X2_makeFrom se_X2_makeFrom cd_X2_makeFrom (by decide) cw.k vcX2 rfl (by decide) rfl (by first | decide | simp [Value.category]) ?_
          rintro v K1 N1 R1 I1 J1 sz1 ⟨r, rfl, n1⟩ -
          have cw1 := n1.cw
          have hr := n1.vw
          have g := n1.ge
          have ho := n1.vo (show vj ≠ nv by omega) (by omega) (hvv vj hbv)
          have old := n1.old cw (show vj ≠ nv by omega) (by omega) (hvv vj hbv)
          have hI : I1 x 10 = I x 10 := by rw [n1.2.2.2.2.1]; simp [va_up]
          have h6' : I1 x 6 = nI s := by rw [n1.2.2.2.2.1]; simp [va_up, h6]
          have hrow := n1.2.2.2.2.2.2.2.2.1
          have hks : bj / s < 64 := Nat.lt_of_le_of_lt (Nat.div_le_self _ _) (by omega)
          
          refine x_astore dX2_set_35 (by decide) rfl ?_
          refine x_aload dX2_set_37 rfl ?_
          refine x_ifnonnull 45 dX2_set_39 (by decide) (fun c39 => ?_) (fun c39 => ?_)
          · refine x_aload dX2_set_45 rfl ?_
            refine x_iload_n dX2_set_47 rfl ?_
            refine x_iload_n dX2_set_48 rfl ?_
            refine x_eV (c_X1_numberAt l D ho (n := bj) (c := aj) (by omega) (by omega)) dX2_set_49 lk_X2_82 im_X1_numberAt se_X1_numberAt cd_X1_numberAt (by decide) ho.k vcX1 rfl (by decide) rfl (by first | decide | simp [Value.category]) ?_
            rw [old.2.2.1]
            refine x_lload dX2_set_52 rfl ?_
            refine x_lcmp dX2_set_54 ?_
            refine x_if_eq 86 dX2_set_55 (by decide) (fun c55 => ?_) (fun c55 => ?_)
            · have c55 : J (R (x + 1) vj + 2) (bj * 2 + aj) = w := cmp_eq.mp c55
              have n9 := n1
              simp only [if_neg (show ¬ J (R (x + 1) vj + 2) (bj * 2 + aj) ≠ w from fun z => z c55)]
              refine x_aload dX2_set_86 rfl ?_
              refine x_geti dX2_set_88 fl_X2_102 hr.k rfl ?_
              refine x_zi dX2_set_91 ⟨by rw [if_pos hG, chA, if_neg (by omega), n9.2.2.2.2.2.2.1.1], ?_⟩
              rw [if_pos ⟨hG, hl⟩]
              exact ⟨r, n9⟩
            · have c55 : J (R (x + 1) vj + 2) (bj * 2 + aj) ≠ w := fun z => c55 (cmp_eq.mpr z)
              simp only [if_pos c55]
              refine x_aload dX2_set_58 rfl ?_
              refine x_getq dX2_set_60 fl_X2_86 hr.k hr.r5 rfl ?_
              refine x_iload_n dX2_set_63 rfl ?_
              refine x_iconst (v := (nI 2)) dX2_set_64 (by decide +kernel) ?_
              refine x_imul dX2_set_65 ?_
              refine x_iload_n dX2_set_66 rfl ?_
              refine x_iadd dX2_set_67 ?_
              refine x_lload dX2_set_68 rfl ?_
              refine x_last (bj * 2 + aj) dX2_set_70 hr.k5 hr.n5 (by rw [pk_mul, nI_add]) (by omega) (by decide) ?_
              have n2 := n1.setC (C' := va_up (J (R (x + 1) vj + 2)) (bj * 2 + aj) w) (F := va_up (J1 (r + 2)) (bj * 2 + aj) w) (fun n hn => by
                by_cases e : n = bj * 2 + aj
                · subst e; rw [va_up_self, va_up_self]
                · rw [va_up_ne _ _ e, va_up_ne _ _ e]; exact hrow n hn)
              refine x_aload dX2_set_71 rfl ?_
              refine x_getq dX2_set_73 fl_X2_90 hr.k hr.r6 rfl ?_
              refine x_aload_n dX2_set_76 rfl ?_
              refine x_iload_n dX2_set_77 rfl ?_
              refine x_eV (c_X2_chunkOfNode l D cw1 (s := s) (n := bj) h6' hs0 hs (by omega)) dX2_set_78 lk_X2_94 im_X2_chunkOfNode se_X2_chunkOfNode cd_X2_chunkOfNode (by decide) cw1.k vcX2 rfl (by decide) rfl (by first | decide | simp [Value.category]) ?_
              refine x_aload_n dX2_set_81 rfl ?_
              refine x_eV (c_X2_nextChunk l D cw1) dX2_set_82 lk_X2_98 im_X2_nextChunk se_X2_nextChunk cd_X2_nextChunk (by decide) cw1.k vcX2 rfl (by decide) rfl (by first | decide | simp [Value.category]) ?_
              rw [hI]
              refine x_iast (bj / s) dX2_set_85 hr.k6 hr.n6 rfl (by omega) (by decide) ?_
              have n9 := (n2.setE (ce' := I x 10 + 1) (F := va_up (I1 x) 10 (I x 10 + 1)) rfl).setD (D' := va_up (I (R (x + 1) vj + 3)) (bj / s) (I x 10)) (F := va_up (va_up I1 x (va_up (I1 x) 10 (I x 10 + 1)) (r + 3)) (bj / s) (I x 10)) (fun n hn => by
                by_cases e : n = bj / s
                · subst e; rw [va_up_self, va_up_self]
                · rw [va_up_ne _ _ e, va_up_ne _ _ e, va_up_ne _ _ (show r + 3 ≠ x by omega)]; exact n1.2.2.2.2.2.2.2.2.2.1 n hn)
              refine x_aload dX2_set_86 rfl ?_
              refine x_geti dX2_set_88 fl_X2_102 hr.k rfl ?_
              refine x_zi dX2_set_91 ⟨by rw [if_pos hG, chA, if_neg (by omega), n9.2.2.2.2.2.2.1.1], ?_⟩
              rw [if_pos ⟨hG, hl⟩]
              exact ⟨r, n9⟩
          · exact absurd c39 n1.2.1
        · obtain rfl : nv = 60 := by omega
          refine x_aload_n dX2_set_29 rfl ?_
          refine x_aload dX2_set_30 rfl ?_
          refine x_eV (c_X2_makeFromF l D cw h8) dX2_set_32 lk_X2_78 im_X2_makeFrom se_X2_makeFrom cd_X2_makeFrom (by decide) cw.k vcX2 rfl (by decide) rfl (by first | decide | simp [Value.category]) ?_
          refine x_astore dX2_set_35 (by decide) rfl ?_
          refine x_aload dX2_set_37 rfl ?_
          refine x_ifnonnull 45 dX2_set_39 (by decide) (fun c39 => ?_) (fun c39 => ?_)
          · exact absurd rfl c39
          · refine x_bipush (v := (-3)) dX2_set_42 (by decide +kernel) ?_
            refine x_zi dX2_set_44 ⟨by rw [if_pos hG]; rfl, ?_⟩
            rw [if_neg (fun z => by omega)]
            exact Sm.rf
      · rw [bI_e0] at c24
        have hG : ¬ (pL R I x nv (nI vj) ∧ (¬ (nI aj) < 0 ∧ ¬ 1 < (nI aj)) ∧ pN nn qb) := fun z => c24 z.2.2
        refine x_iconst (v := (-1)) dX2_set_27 (by decide +kernel) ?_
        refine x_zi dX2_set_28 ⟨by rw [if_neg hG], ?_⟩
        rw [if_neg (fun z => hG z.1)]
        exact Sm.rf
/-- the class's heap as graph has cleared it, before its first version -/
def GR (x nn s nc : Nat) (R : Nat → Nat → Nat) (I : Nat → Nat → Int32) (J : Nat → Nat → Int64) (R1 : Nat → Nat → Nat) (I1 : Nat → Nat → Int32) (J1 : Nat → Nat → Int64) : Prop :=
  R1 (x + 1) = R (x + 1) ∧ R1 x 3 = 0 ∧ R1 x 4 = 0 ∧ (I1 x 5 = nI nn ∧ I1 x 6 = nI s ∧ I1 x 7 = nI nc ∧ I1 x 9 = 0 ∧ I1 x 11 = 0 ∧ I1 x 12 = I x 12) ∧ (I1 (x + 2) 0 = 0 ∧ I1 (x + 5) 0 = 0) ∧
  (∀ i, i < 64 → J1 (x + 3) i = 0 ∧ J1 (x + 4) i = 0 ∧ J1 (x + 6) i = 0 ∧ J1 (x + 7) i = 0) ∧ (∀ q, x + 8 ≤ q → I1 q = I q ∧ J1 q = J q)
set_option maxHeartbeats 4000000 in
theorem c_X2_graph (l : Launch) (D : va_G) {K N : Nat → Nat} {R : Nat → Nat → Nat} {I : Nat → Nat → Int32} {J : Nat → Nat → Int64} {sz : Nat} {x : Nat} (cw : CW x K N R) (qn qs : Int32) : XM l D yX2_graph cX2_graph 3 (some .int) 4 4 263 [.ref x, .int qn, .int qs] K N R I J sz (fun v K' N' R' I' J' sz' => v = some (.int (if ¬ qn < 1 ∧ ¬ 64 < qn ∧ ¬ qs < 1 ∧ ¬ 64 < qs then nI ((qn.toNatClampNeg + qs.toNatClampNeg - 1) / qs.toNatClampNeg) else -1)) ∧ (if ¬ qn < 1 ∧ ¬ 64 < qn ∧ ¬ qs < 1 ∧ ¬ 64 < qs then ∃ (R1 : Nat → Nat → Nat) (I1 : Nat → Nat → Int32) (J1 : Nat → Nat → Int64) (r : Nat) (A Cc : Nat → Int64) (Dd : Nat → Int32), GR x qn.toNatClampNeg qs.toNatClampNeg ((qn.toNatClampNeg + qs.toNatClampNeg - 1) / qs.toNatClampNeg) R I J R1 I1 J1 ∧ NV x 0 r A Cc Dd (-99999999) (nI ((qn.toNatClampNeg + qs.toNatClampNeg - 1) / qs.toNatClampNeg)) K N R1 I1 J1 sz K' N' R' I' J' sz' ∧ (∀ k, k < ((qn.toNatClampNeg + qs.toNatClampNeg - 1) / qs.toNatClampNeg) → Dd k = nI k) ∧ (R (x + 1) 0 = 0 → A = (fun _ => 0) ∧ Cc = (fun _ => 0)) ∧ (R (x + 1) 0 ≠ 0 → A = J (R (x + 1) 0 + 1) ∧ Cc = J (R (x + 1) 0 + 2)) else Sm K N R I J sz K' N' R' I' J' sz')) := by
  refine XM.of (own := RX2) (nm := "graph") (by decide +kernel) rfl rfl (by simp [xla, Value.category]) [.ref x, .int qn, .int qs] rfl (by rintro v K N R I J sz ⟨h, -⟩; exact ⟨_, h⟩) ?_
  refine x_iload_n dX2_graph_0 rfl ?_
  refine x_iconst (v := (1)) dX2_graph_1 (by decide +kernel) ?_
  refine x_icmp_lt 22 dX2_graph_2 (by decide) (fun c2 => ?_) (fun c2 => ?_)
  · have hG : ¬ (¬ qn < 1 ∧ ¬ 64 < qn ∧ ¬ qs < 1 ∧ ¬ 64 < qs) := fun z => z.1 c2
    refine x_iconst (v := (-1)) dX2_graph_22 (by decide +kernel) ?_
    refine x_zi dX2_graph_23 ⟨by rw [if_neg hG], ?_⟩
    rw [if_neg hG]
    exact Sm.rf
  · refine x_iload_n dX2_graph_5 rfl ?_
    refine x_bipush (v := (nI 64)) dX2_graph_6 (by decide +kernel) ?_
    refine x_icmp_gt 22 dX2_graph_8 (by decide) (fun c8 => ?_) (fun c8 => ?_)
    · have hG : ¬ (¬ qn < 1 ∧ ¬ 64 < qn ∧ ¬ qs < 1 ∧ ¬ 64 < qs) := fun z => z.2.1 c8
      refine x_iconst (v := (-1)) dX2_graph_22 (by decide +kernel) ?_
      refine x_zi dX2_graph_23 ⟨by rw [if_neg hG], ?_⟩
      rw [if_neg hG]
      exact Sm.rf
    · refine x_iload_n dX2_graph_11 rfl ?_
      refine x_iconst (v := (1)) dX2_graph_12 (by decide +kernel) ?_
      refine x_icmp_lt 22 dX2_graph_13 (by decide) (fun c13 => ?_) (fun c13 => ?_)
      · have hG : ¬ (¬ qn < 1 ∧ ¬ 64 < qn ∧ ¬ qs < 1 ∧ ¬ 64 < qs) := fun z => z.2.2.1 c13
        refine x_iconst (v := (-1)) dX2_graph_22 (by decide +kernel) ?_
        refine x_zi dX2_graph_23 ⟨by rw [if_neg hG], ?_⟩
        rw [if_neg hG]
        exact Sm.rf
      · refine x_iload_n dX2_graph_16 rfl ?_
        refine x_bipush (v := (nI 64)) dX2_graph_17 (by decide +kernel) ?_
        refine x_icmp_le 24 dX2_graph_19 (by decide) (fun c19 => ?_) (fun c19 => ?_)
        · have c19 : ¬ 64 < qs := Int32.not_lt.mpr c19
          obtain ⟨nn, hn0, rfl⟩ := nI_of (show ¬ qn < 0 from fun z => c2 (Int32.lt_trans z (by decide)))
          obtain ⟨s, hs0, rfl⟩ := nI_of (show ¬ qs < 0 from fun z => c13 (Int32.lt_trans z (by decide)))
          have hn1 : 1 ≤ nn := by
            rcases Nat.lt_or_ge nn 1 with z | z
            · exact absurd (nI_lt (show nn < 1 from z) (by omega)) c2
            · exact z
          have hn2 : nn ≤ 64 := by
            rcases Nat.lt_or_ge 64 nn with z | z
            · exact absurd (nI_lt z hn0) c8
            · exact z
          have hs1 : 1 ≤ s := by
            rcases Nat.lt_or_ge s 1 with z | z
            · exact absurd (nI_lt (show s < 1 from z) (by omega)) c13
            · exact z
          have hs2 : s ≤ 64 := by
            rcases Nat.lt_or_ge 64 s with z | z
            · exact absurd (nI_lt z hs0) c19
            · exact z
          have hG : ¬ nI nn < 1 ∧ ¬ 64 < nI nn ∧ ¬ nI s < 1 ∧ ¬ 64 < nI s := ⟨c2, c8, c13, c19⟩
          simp only [if_pos hG, nI_clamp hn0, nI_clamp hs0]
          have hnc : (nn + s - 1) / s ≤ 64 := Nat.div_le_of_le_mul (by
            have e1 : s * 64 = s + s * 63 := by omega
            have e2 : 63 ≤ s * 63 := by omega
            omega)
          refine x_aload_n dX2_graph_24 rfl ?_
          refine x_iload_n dX2_graph_25 rfl ?_
          refine x_puti dX2_graph_26 fl_X2_29 cw.k rfl (Or.inl rfl) ?_
          refine x_aload_n dX2_graph_29 rfl ?_
          refine x_iload_n dX2_graph_30 rfl ?_
          refine x_puti dX2_graph_31 fl_X2_25 cw.k rfl (Or.inl rfl) ?_
          simp only [va_up_self, va_up_up]
          refine x_aload_n dX2_graph_34 rfl ?_
          refine x_iload_n dX2_graph_35 rfl ?_
          refine x_iload_n dX2_graph_36 rfl ?_
          refine x_iadd dX2_graph_37 ?_
          refine x_iconst (v := (nI 1)) dX2_graph_38 (by decide +kernel) ?_
          refine x_isub dX2_graph_39 ?_
          refine x_iload_n dX2_graph_40 rfl ?_
          refine x_idiv dX2_graph_41 (by exact nI_ne0 hs1 (by omega)) ?_
          refine x_puti dX2_graph_42 fl_X2_32 cw.k rfl (Or.inl rfl) ?_
          simp only [va_up_self, va_up_up]
          rw [nI_add, pk_sub (show 1 ≤ nn + s by omega), pk_div (a := nn + s - 1) (d := s) (by omega) (by omega) (by omega)]
          refine x_aload_n dX2_graph_45 rfl ?_
          refine x_getq dX2_graph_46 fl_X2_18 cw.k cw.r1 rfl ?_
          refine x_eW (c_X0_clear l D cw.wu) dX2_graph_49 lk_X2_35 im_X0_clear se_X0_clear cd_X0_clear (by decide) cw.wu.k vcX0 rfl (by decide) rfl (by first | decide | simp [Value.category]) ?_
          refine x_aload_n dX2_graph_52 rfl ?_
          refine x_getq dX2_graph_53 fl_X2_22 cw.k cw.r2 rfl ?_
          refine x_eW (c_X0_clear l D cw.wc) dX2_graph_56 lk_X2_35 im_X0_clear se_X0_clear cd_X0_clear (by decide) cw.wc.k vcX0 rfl (by decide) rfl (by first | decide | simp [Value.category]) ?_
          refine x_aload_n dX2_graph_59 rfl ?_
          refine x_null dX2_graph_60 ?_
          refine x_putr dX2_graph_61 fl_X2_38 cw.k (Or.inl rfl) (Or.inl ⟨_, rfl⟩) ?_
          refine x_aload_n dX2_graph_64 rfl ?_
          refine x_null dX2_graph_65 ?_
          refine x_putr dX2_graph_66 fl_X2_42 cw.k (Or.inl rfl) (Or.inl ⟨_, rfl⟩) ?_
          simp only [va_up_self, va_up_up]
          refine x_aload_n dX2_graph_69 rfl ?_
          refine x_iconst (v := (0)) dX2_graph_70 (by decide +kernel) ?_
          refine x_puti dX2_graph_71 fl_X2_45 cw.k rfl (Or.inl rfl) ?_
          simp only [va_up_self, va_up_up, va_up_ne _ _ (show x ≠ x + 5 by omega), va_up_ne _ _ (show x ≠ x + 2 by omega)]
          refine x_aload_n dX2_graph_74 rfl ?_
          refine x_iconst (v := (0)) dX2_graph_75 (by decide +kernel) ?_
          refine x_puti dX2_graph_76 fl_X2_48 cw.k rfl (Or.inl rfl) ?_
          simp only [va_up_self, va_up_up]
          refine x_aload_n dX2_graph_79 rfl ?_
          refine x_iconst (v := (0)) dX2_graph_80 (by decide +kernel) ?_
          refine x_puti dX2_graph_81 fl_X2_51 cw.k rfl (Or.inl rfl) ?_
          simp only [va_up_self, va_up_up]
          refine x_aload_n dX2_graph_84 rfl ?_
          refine x_iconst (v := (0)) dX2_graph_85 (by decide +kernel) ?_
          refine x_puti dX2_graph_86 fl_X2_54 cw.k rfl (Or.inl rfl) ?_
          simp only [va_up_self, va_up_up]
          refine x_aload_n dX2_graph_89 rfl ?_
          refine x_gen fun R1 I1 J1 hR1 hI1 hJ1 => ?_
          have cw2 : CW x K N R1 := by
            rw [hR1, ← va_up_up R x (va_up (R x) 3 0)]
            have := (cw.putc (k := 3) (q := 0) (by omega)).putc (k := 4) (q := 0) (by omega)
            rwa [va_up_self] at this
          refine x_cV (c_X2_makeFirst l D cw2 (nc := (nn + s - 1) / s) (by rw [hI1]; simp [va_up]; rfl) (by rw [hI1]; simp [va_up]) hnc (by rw [hI1]; simp [va_up]; rfl)) dX2_graph_90 lk_X2_57 im_X2_makeFirst se_X2_makeFirst cd_X2_makeFirst (by decide) cw.k vcX2 rfl (by decide) rfl (by first | decide | simp [Value.category]) ?_
          rintro v K2 N2 R2 I2 J2 sz2 ⟨rfl, r, A, Cc, Dd, n1, hd, hz1, hz2⟩ -
          have gr : GR x nn s ((nn + s - 1) / s) R I J R1 I1 J1 := by
            refine ⟨by rw [hR1, va_up_ne _ _ (by omega)], by rw [hR1]; simp [va_up], by rw [hR1]; simp [va_up], ⟨?_, ?_, ?_, ?_, ?_, ?_⟩, ⟨?_, ?_⟩, fun i hi => ⟨?_, ?_, ?_, ?_⟩, fun q hq => ⟨?_, ?_⟩⟩
            all_goals first | (rw [hI1]; simp [va_up]; done) | (rw [hJ1]; simp [clJ, va_up, hi]; done) | (rw [hI1, va_up_ne _ _ (show q ≠ x by omega), va_up_ne _ _ (show q ≠ x + 5 by omega), va_up_ne _ _ (show q ≠ x + 2 by omega), va_up_ne _ _ (show q ≠ x by omega)]; done) | (rw [hJ1, clJ, va_up_ne _ _ (show q ≠ x + 5 + 2 by omega), va_up_ne _ _ (show q ≠ x + 5 + 1 by omega), clJ, va_up_ne _ _ (show q ≠ x + 2 + 2 by omega), va_up_ne _ _ (show q ≠ x + 2 + 1 by omega)]; done)
          have e1 : R1 (x + 1) = R (x + 1) := gr.1
          rw [e1] at hz1 hz2
          have hz3 : R (x + 1) 0 ≠ 0 → A = J (R (x + 1) 0 + 1) ∧ Cc = J (R (x + 1) 0 + 2) := fun z => by
            have hh := hz2 z
            have gg := cw.wg (show 0 < 60 by omega) z
            rw [(gr.2.2.2.2.2.2 _ (show x + 8 ≤ R (x + 1) 0 + 1 by omega)).2, (gr.2.2.2.2.2.2 _ (show x + 8 ≤ R (x + 1) 0 + 2 by omega)).2] at hh
            exact hh
          have h7' : I2 x 7 = nI ((nn + s - 1) / s) := by rw [n1.2.2.2.2.1]; simp [va_up]; exact gr.2.2.2.1.2.2.1
          refine x_aload_n dX2_graph_93 rfl ?_
          refine x_geti dX2_graph_94 fl_X2_32 n1.cw.k rfl ?_
          exact x_zi dX2_graph_97 ⟨by rw [h7'], R1, I1, J1, r, A, Cc, Dd, gr, n1, hd, hz1, hz3⟩
        · have hG : ¬ (¬ qn < 1 ∧ ¬ 64 < qn ∧ ¬ qs < 1 ∧ ¬ 64 < qs) := fun z => z.2.2.2 (Int32.not_le.mp c19)
          refine x_iconst (v := (-1)) dX2_graph_22 (by decide +kernel) ?_
          refine x_zi dX2_graph_23 ⟨by rw [if_neg hG], ?_⟩
          rw [if_neg hG]
          exact Sm.rf
