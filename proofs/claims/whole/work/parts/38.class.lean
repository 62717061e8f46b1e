/-! The class: turn, join -/
def akF (A Cc A' C' : Nat → Int64) (s k : Nat) : Nat → Bool := fun n => decide (k * s ≤ n ∧ n < k * s + s) && ((A n != A' n) || ((Cc (n * 2 + 0) != C' (n * 2 + 0)) || (Cc (n * 2 + 1) != C' (n * 2 + 1))))
theorem akB_F {J : Nat → Nat → Int64} {p q s k : Nat} : akB J p q s k = akF (J (p + 1)) (J (p + 2)) (J (q + 1)) (J (q + 2)) s k := rfl
theorem anyP_congr {p q : Nat → Bool} {n : Nat} (h : ∀ i, i < n → p i = q i) : anyP p n = anyP q n := by
  induction n with
  | zero => rfl
  | succ n ih => simp only [anyP]; rw [ih (fun i hi => h i (by omega)), h n (by omega)]
theorem akF_congr {A Cc B Dd A' C' : Nat → Int64} {nn s k : Nat} (hnn : nn ≤ 64) (hA : ∀ n, n < 64 → A n = B n) (hC : ∀ n, n < 128 → Cc n = Dd n) : anyP (akF A Cc A' C' s k) nn = anyP (akF B Dd A' C' s k) nn :=
  anyP_congr fun i hi => by simp only [akF]; rw [hA i (by omega), hC (i * 2 + 0) (by omega), hC (i * 2 + 1) (by omega)]
def neK (A Cc A' C' : Nat → Int64) (s nn : Nat) : Nat → Bool := fun k => anyP (akF A Cc A' C' s k) nn
def tnD (Dd : Nat → Int32) (e : Int32) (ne : Nat → Bool) (k : Nat) : Nat → Int32 := fun j => if j < k ∧ ne j = true then e + nI (cntP ne j) else Dd j
theorem tnD_0 {Dd : Nat → Int32} {e : Int32} {ne : Nat → Bool} : tnD Dd e ne 0 = Dd := by funext j; simp [tnD]
theorem tnD_f {Dd : Nat → Int32} {e : Int32} {ne : Nat → Bool} {k : Nat} (h : ne k = false) : tnD Dd e ne (k + 1) = tnD Dd e ne k := by
  funext j
  by_cases hj : j = k
  · subst hj; simp [tnD, h]
  · have : j < k + 1 ↔ j < k := by omega
    simp only [tnD, this]
theorem tnD_t {Dd : Nat → Int32} {e : Int32} {ne : Nat → Bool} {k : Nat} (h : ne k = true) : tnD Dd e ne (k + 1) = va_up (tnD Dd e ne k) k (e + nI (cntP ne k)) := by
  funext j
  by_cases hj : j = k
  · subst hj; rw [va_up_self]; simp [tnD, h]
  · rw [va_up_ne _ _ hj]
    have : j < k + 1 ↔ j < k := by omega
    simp only [tnD, this]
theorem ce_1 {e : Int32} {c : Nat} : e + nI c + 1 = e + nI (c + 1) := by rw [← nI_1, Int32.add_assoc]
def jnD (X Y W : Nat → Int32) (e : Int32) (la lb : Nat → Bool) (fr : Nat → Bool) (k : Nat) : Nat → Int32 := fun j => if j < k then cjV (X j) (Y j) (W j) (e + nI (cntP fr j)) (la j) (lb j) else Y j
theorem jnD_0 {X Y W : Nat → Int32} {e : Int32} {la lb fr : Nat → Bool} : jnD X Y W e la lb fr 0 = Y := by funext j; simp [jnD]
theorem jnD_s {X Y W : Nat → Int32} {e : Int32} {la lb fr : Nat → Bool} {k : Nat} : jnD X Y W e la lb fr (k + 1) = va_up (jnD X Y W e la lb fr k) k (cjV (X k) (Y k) (W k) (e + nI (cntP fr k)) (la k) (lb k)) := by
  funext j
  by_cases hj : j = k
  · subst hj; rw [va_up_self]; simp [jnD]
  · rw [va_up_ne _ _ hj]
    have : j < k + 1 ↔ j < k := by omega
    simp only [jnD, this]
set_option maxHeartbeats 4000000 in
theorem c_X2_turn (l : Launch) (D : va_G) {K N : Nat → Nat} {R : Nat → Nat → Nat} {I : Nat → Nat → Int32} {J : Nat → Nat → Int64} {sz : Nat} {x : Nat} (cw : CW x K N R) {nv : Nat} (h8 : I x 8 = nI nv) (hnv : nv ≤ 60) (hvv : ∀ i, i < nv → R (x + 1) i ≠ 0) {nn : Nat} (h5 : I x 5 = nI nn) (hnn : nn ≤ 64) {s : Nat} (h6 : I x 6 = nI s) (hs0 : 0 < s) (hs : s ≤ 64) {nc : Nat} (h7 : I x 7 = nI nc) (hnc : nc ≤ 64) (hkc : ∀ k, k < nc → k * s < nn) {ca cb : Nat} (hca : ca < nv) (hcb : cb < nv) (h3 : R x 3 = R (x + 1) ca) (h4 : R x 4 = R (x + 1) cb) (qv : Int32) : XM l D yX2_turn cX2_turn 5 (some .int) 4 4 263 [.ref x, .int qv] K N R I J sz (fun v K' N' R' I' J' sz' => v = some (.int (if pL R I x nv qv then (if anyP (ctB J (R (x + 1) qv.toNatClampNeg) (R (x + 1) ca) (R (x + 1) cb)) (nn * 2) = false then chA nv else -2) else -1)) ∧ (if pL R I x nv qv ∧ anyP (ctB J (R (x + 1) qv.toNatClampNeg) (R (x + 1) ca) (R (x + 1) cb)) (nn * 2) = false ∧ nv < 60 then ∃ r : Nat, NV x nv r (tiA (J (R (x + 1) qv.toNatClampNeg + 1)) (J (x + 2 + 1)) (J (R (x + 1) cb + 1)) nn) (tiC (J (R (x + 1) qv.toNatClampNeg + 2)) (J (x + 2 + 2)) (J (R (x + 1) cb + 2)) (nn * 2)) (tnD (I (R (x + 1) qv.toNatClampNeg + 3)) (I x 10) (neK (tiA (J (R (x + 1) qv.toNatClampNeg + 1)) (J (x + 2 + 1)) (J (R (x + 1) cb + 1)) nn) (tiC (J (R (x + 1) qv.toNatClampNeg + 2)) (J (x + 2 + 2)) (J (R (x + 1) cb + 2)) (nn * 2)) (J (R (x + 1) qv.toNatClampNeg + 1)) (J (R (x + 1) qv.toNatClampNeg + 2)) s nn) nc) (I (R (x + 1) qv.toNatClampNeg) 0) (I x 10 + nI (cntP (neK (tiA (J (R (x + 1) qv.toNatClampNeg + 1)) (J (x + 2 + 1)) (J (R (x + 1) cb + 1)) nn) (tiC (J (R (x + 1) qv.toNatClampNeg + 2)) (J (x + 2 + 2)) (J (R (x + 1) cb + 2)) (nn * 2)) (J (R (x + 1) qv.toNatClampNeg + 1)) (J (R (x + 1) qv.toNatClampNeg + 2)) s nn) nc)) K N R I J sz K' N' R' I' J' sz' else Sm K N R I J sz K' N' R' I' J' sz')) := by
  refine XM.of (own := RX2) (nm := "turn") (by decide +kernel) rfl rfl (by simp [xla, Value.category]) [.ref x, .int qv, .null, .null, .null] rfl (by rintro v K N R I J sz ⟨h, -⟩; exact ⟨_, h⟩) ?_
  refine x_aload_n dX2_turn_0 rfl ?_
  refine x_iload_n dX2_turn_1 rfl ?_
  refine x_eV (c_X2_living l D cw h8 hnv hvv _) dX2_turn_2 lk_X2_67 im_X2_living se_X2_living cd_X2_living (by decide) cw.k vcX2 rfl (by decide) rfl (by first | decide | simp [Value.category]) ?_
  refine x_astore_n dX2_turn_5 (by decide) rfl ?_
  refine x_aload_n dX2_turn_6 rfl ?_
  refine x_ifnonnull 12 dX2_turn_7 (by decide) (fun c7 => ?_) (fun c7 => ?_)
  · have hv : pL R I x nv qv := liv_s c7
    simp only [if_pos hv]
    obtain ⟨vj, hbv, rfl⟩ := pN_ex hv.1
    have hcv : (nI vj).toNatClampNeg = vj := nI_clamp (by omega)
    simp only [hcv]
    have hw := cw.wv (show vj < 60 by omega) (hvv vj hbv)
    have hwa := cw.wv (show ca < 60 by omega) (hvv ca hca)
    have hwb := cw.wv (show cb < 60 by omega) (hvv cb hcb)
    refine x_aload_n dX2_turn_12 rfl ?_
    refine x_getq dX2_turn_13 fl_X2_38 cw.k rfl rfl ?_
    refine x_ifnull 42 dX2_turn_16 (by decide) (fun c16 => ?_) (fun c16 => ?_)
    · exact absurd (h3.symm.trans c16) (hvv ca hca)
    · refine x_aload_n dX2_turn_19 rfl ?_
      refine x_getq dX2_turn_20 fl_X2_42 cw.k rfl rfl ?_
      refine x_ifnull 42 dX2_turn_23 (by decide) (fun c23 => ?_) (fun c23 => ?_)
      · exact absurd (h4.symm.trans c23) (hvv cb hcb)
      · refine x_aload_n dX2_turn_26 rfl ?_
        refine x_aload_n dX2_turn_27 rfl ?_
        refine x_aload_n dX2_turn_28 rfl ?_
        refine x_getq dX2_turn_29 fl_X2_38 cw.k rfl rfl ?_
        refine x_aload_n dX2_turn_32 rfl ?_
        refine x_getq dX2_turn_33 fl_X2_42 cw.k rfl rfl ?_
        rw [h3, h4]
        refine x_eV (c_X2_canTurn l D cw hw hwa hwb h5 hnn) dX2_turn_36 lk_X2_149 im_X2_canTurn se_X2_canTurn cd_X2_canTurn (by decide) cw.k vcX2 rfl (by decide) rfl (by first | decide | simp [Value.category]) ?_
        refine x_if_ne 45 dX2_turn_39 (by decide) (fun c39 => ?_) (fun c39 => ?_)
        · rw [bI_n0] at c39
          have hct : anyP (ctB J (R (x + 1) vj) (R (x + 1) ca) (R (x + 1) cb)) (nn * 2) = false := c39
          rcases Nat.lt_or_ge nv 60 with hl | hl
          · refine x_aload_n dX2_turn_45 rfl ?_
            refine x_aload_n dX2_turn_46 rfl ?_
            refine x_cV (c_X2_makeFrom l D cw h8 hl (oi := vj) hbv (hvv vj hbv)) dX2_turn_47 lk_X2_78 im_X2_makeFrom se_X2_makeFrom cd_X2_makeFrom (by decide) cw.k vcX2 rfl (by decide) rfl (by first | decide | simp [Value.category]) ?_
            rintro v K1 N1 R1 I1 J1 sz1 ⟨r, rfl, n0⟩ -
            have cw0 := n0.cw
            have hr := n0.vw
            have g0 := n0.ge
            have hbb := n0.vo (show cb ≠ nv by omega) (by omega) (hvv cb hcb)
            have hapb := n0.apart (show cb ≠ nv by omega) (by omega) (hvv cb hcb)
            have oldb := n0.old cw (show cb ≠ nv by omega) (by omega) (hvv cb hcb)
            have gb := cw.wg (show cb < 60 by omega) (hvv cb hcb)
            have e4 : R1 x 4 = R (x + 1) cb := by rw [n0.2.2.2.1]; exact h4
            have i5 : I1 x 5 = nI nn := by rw [n0.2.2.2.2.1]; simp [va_up, h5]
            have ku := (n0.2.2.2.2.2.1 (x + 2 + 1) (by rw [cw.wu.k1]; omega) (by omega) (by omega)).2
            have kv := (n0.2.2.2.2.2.1 (x + 2 + 2) (by rw [cw.wu.k2]; omega) (by omega) (by omega)).2
            obtain ⟨J2, hJ2⟩ : ∃ J2, J2 = tiJ J1 x r (R (x + 1) cb) nn (nn * 2) := ⟨_, rfl⟩
            have n2 : NV x nv r (tiA (J (R (x + 1) vj + 1)) (J (x + 2 + 1)) (J (R (x + 1) cb + 1)) nn) (tiC (J (R (x + 1) vj + 2)) (J (x + 2 + 2)) (J (R (x + 1) cb + 2)) (nn * 2)) (I (R (x + 1) vj + 3)) (I (R (x + 1) vj) 0) (I x 10) K N R I J sz K1 N1 R1 I1 J2 sz1 := by
              rw [hJ2, tiJ]
              refine (n0.setA (fun n hn => ?_)).setC (fun n hn => ?_)
              · simp only [tiA]; rw [n0.2.2.2.2.2.2.2.1 n hn, ku, oldb.2.1]
              · simp only [tiC]; rw [n0.2.2.2.2.2.2.2.2.1 n hn, kv, oldb.2.2.1]
            have loop : ∀ (t k : Nat), t + k = nc → ∀ Ii : Nat → Nat → Int32, NV x nv r (tiA (J (R (x + 1) vj + 1)) (J (x + 2 + 1)) (J (R (x + 1) cb + 1)) nn) (tiC (J (R (x + 1) vj + 2)) (J (x + 2 + 2)) (J (R (x + 1) cb + 2)) (nn * 2)) (tnD (I (R (x + 1) vj + 3)) (I x 10) (neK (tiA (J (R (x + 1) vj + 1)) (J (x + 2 + 1)) (J (R (x + 1) cb + 1)) nn) (tiC (J (R (x + 1) vj + 2)) (J (x + 2 + 2)) (J (R (x + 1) cb + 2)) (nn * 2)) (J (R (x + 1) vj + 1)) (J (R (x + 1) vj + 2)) s nn) k) (I (R (x + 1) vj) 0) (I x 10 + nI (cntP (neK (tiA (J (R (x + 1) vj + 1)) (J (x + 2 + 1)) (J (R (x + 1) cb + 1)) nn) (tiC (J (R (x + 1) vj + 2)) (J (x + 2 + 2)) (J (R (x + 1) cb + 2)) (nn * 2)) (J (R (x + 1) vj + 1)) (J (R (x + 1) vj + 2)) s nn) k)) K N R I J sz K1 N1 R1 Ii J2 sz1 → XW l D (fun _ => True) RX2 "turn" cX2_turn 5 4 4 263 K sz (fun v K' N' R' I' J' sz' => v = some (.int ((if anyP (ctB J (R (x + 1) vj) (R (x + 1) ca) (R (x + 1) cb)) (nn * 2) = false then chA nv else -2))) ∧ (if pL R I x nv (nI vj) ∧ anyP (ctB J (R (x + 1) vj) (R (x + 1) ca) (R (x + 1) cb)) (nn * 2) = false ∧ nv < 60 then ∃ r : Nat, NV x nv r (tiA (J (R (x + 1) vj + 1)) (J (x + 2 + 1)) (J (R (x + 1) cb + 1)) nn) (tiC (J (R (x + 1) vj + 2)) (J (x + 2 + 2)) (J (R (x + 1) cb + 2)) (nn * 2)) (tnD (I (R (x + 1) vj + 3)) (I x 10) (neK (tiA (J (R (x + 1) vj + 1)) (J (x + 2 + 1)) (J (R (x + 1) cb + 1)) nn) (tiC (J (R (x + 1) vj + 2)) (J (x + 2 + 2)) (J (R (x + 1) cb + 2)) (nn * 2)) (J (R (x + 1) vj + 1)) (J (R (x + 1) vj + 2)) s nn) nc) (I (R (x + 1) vj) 0) (I x 10 + nI (cntP (neK (tiA (J (R (x + 1) vj + 1)) (J (x + 2 + 1)) (J (R (x + 1) cb + 1)) nn) (tiC (J (R (x + 1) vj + 2)) (J (x + 2 + 2)) (J (R (x + 1) cb + 2)) (nn * 2)) (J (R (x + 1) vj + 1)) (J (R (x + 1) vj + 2)) s nn) nc)) K N R I J sz K' N' R' I' J' sz' else Sm K N R I J sz K' N' R' I' J' sz')) 70 [.ref x, .int (nI vj), .ref (R (x + 1) vj), .ref r, .int (nI k)] [] K1 N1 R1 (Ii) (J2) sz1 0 0 := by
              intro t
              induction t with
              | zero =>
                intro k hk Ii n1
                have cw1 := n1.cw
                have hr := n1.vw
                have g := n1.ge
                have hx : Ii x = va_up (va_up (I x) 8 (nI (nv + 1))) 10 (I x 10 + nI (cntP (neK (tiA (J (R (x + 1) vj + 1)) (J (x + 2 + 1)) (J (R (x + 1) cb + 1)) nn) (tiC (J (R (x + 1) vj + 2)) (J (x + 2 + 2)) (J (R (x + 1) cb + 2)) (nn * 2)) (J (R (x + 1) vj + 1)) (J (R (x + 1) vj + 2)) s nn) k)) := n1.2.2.2.2.1
                have i7 : Ii x 7 = nI nc := by rw [hx]; simp [va_up, h7]
                refine x_iload dX2_turn_70 rfl ?_
                refine x_aload_n dX2_turn_72 rfl ?_
                refine x_geti dX2_turn_73 fl_X2_32 cw1.k rfl ?_
                refine x_icmp_ge 107 dX2_turn_76 (by decide) (fun c76 => ?_) (fun c76 => ?_)
                · obtain rfl : nc = k := by omega
                  refine x_aload_n dX2_turn_107 rfl ?_
                  refine x_geti dX2_turn_108 fl_X2_102 hr.k rfl ?_
                  refine x_zi dX2_turn_111 ⟨by rw [if_pos hct, chA, if_neg (by omega), n1.2.2.2.2.2.2.1.1], ?_⟩
                  rw [if_pos ⟨hv, hct, hl⟩]
                  exact ⟨r, n1⟩
                · exact absurd (by rw [i7]; exact nI_le (by omega) (by omega)) c76
              | succ t ih =>
                intro k hk Ii n1
                have cw1 := n1.cw
                have hr := n1.vw
                have g := n1.ge
                have hx : Ii x = va_up (va_up (I x) 8 (nI (nv + 1))) 10 (I x 10 + nI (cntP (neK (tiA (J (R (x + 1) vj + 1)) (J (x + 2 + 1)) (J (R (x + 1) cb + 1)) nn) (tiC (J (R (x + 1) vj + 2)) (J (x + 2 + 2)) (J (R (x + 1) cb + 2)) (nn * 2)) (J (R (x + 1) vj + 1)) (J (R (x + 1) vj + 2)) s nn) k)) := n1.2.2.2.2.1
                have i7 : Ii x 7 = nI nc := by rw [hx]; simp [va_up, h7]
                have i5 : Ii x 5 = nI nn := by rw [hx]; simp [va_up, h5]
                have i6 : Ii x 6 = nI s := by rw [hx]; simp [va_up, h6]
                have i10 : Ii x 10 = I x 10 + nI (cntP (neK (tiA (J (R (x + 1) vj + 1)) (J (x + 2 + 1)) (J (R (x + 1) cb + 1)) nn) (tiC (J (R (x + 1) vj + 2)) (J (x + 2 + 2)) (J (R (x + 1) cb + 2)) (nn * 2)) (J (R (x + 1) vj + 1)) (J (R (x + 1) vj + 2)) s nn) k) := by rw [hx]; simp [va_up]
                have ho := n1.vo (show vj ≠ nv by omega) (by omega) (hvv vj hbv)
                have old := n1.old cw (show vj ≠ nv by omega) (by omega) (hvv vj hbv)
                have hak : anyP (akB J2 r (R (x + 1) vj) s k) nn = (neK (tiA (J (R (x + 1) vj + 1)) (J (x + 2 + 1)) (J (R (x + 1) cb + 1)) nn) (tiC (J (R (x + 1) vj + 2)) (J (x + 2 + 2)) (J (R (x + 1) cb + 2)) (nn * 2)) (J (R (x + 1) vj + 1)) (J (R (x + 1) vj + 2)) s nn) k := by
                  rw [akB_F, old.2.1, old.2.2.1]
                  exact akF_congr hnn n1.2.2.2.2.2.2.2.1 n1.2.2.2.2.2.2.2.2.1
                refine x_iload dX2_turn_70 rfl ?_
                refine x_aload_n dX2_turn_72 rfl ?_
                refine x_geti dX2_turn_73 fl_X2_32 cw1.k rfl ?_
                refine x_icmp_ge 107 dX2_turn_76 (by decide) (fun c76 => ?_) (fun c76 => ?_)
                · rw [i7] at c76; exact absurd c76 (nI_ge (by omega) (by omega))
                · refine x_aload_n dX2_turn_79 rfl ?_
                  refine x_aload_n dX2_turn_80 rfl ?_
                  refine x_aload_n dX2_turn_81 rfl ?_
                  refine x_iload dX2_turn_82 rfl ?_
                  refine x_eV (c_X2_isChunkAlike l D cw1 hr ho i5 hnn (s := s) (k := k) i6 hs0 hs (by omega) (hkc k (by omega))) dX2_turn_84 lk_X2_157 im_X2_isChunkAlike se_X2_isChunkAlike cd_X2_isChunkAlike (by decide) cw1.k vcX2 rfl (by decide) rfl (by first | decide | simp [Value.category]) ?_
                  rw [hak]
                  refine x_if_ne 101 dX2_turn_87 (by decide) (fun c87 => ?_) (fun c87 => ?_)
                  · rw [bI_n0] at c87
                    have n9 := ih (k + 1) (by omega) Ii (by rw [tnD_f c87, show cntP (neK (tiA (J (R (x + 1) vj + 1)) (J (x + 2 + 1)) (J (R (x + 1) cb + 1)) nn) (tiC (J (R (x + 1) vj + 2)) (J (x + 2 + 2)) (J (R (x + 1) cb + 2)) (nn * 2)) (J (R (x + 1) vj + 1)) (J (R (x + 1) vj + 2)) s nn) (k + 1) = cntP (neK (tiA (J (R (x + 1) vj + 1)) (J (x + 2 + 1)) (J (R (x + 1) cb + 1)) nn) (tiC (J (R (x + 1) vj + 2)) (J (x + 2 + 2)) (J (R (x + 1) cb + 2)) (nn * 2)) (J (R (x + 1) vj + 1)) (J (R (x + 1) vj + 2)) s nn) k from by simp [cntP, c87]]; exact n1)
                    refine x_iinc dX2_turn_101 rfl rfl (by decide) rfl ?_
                    refine x_goto 70 dX2_turn_104 (by decide) ?_
                    exact x_eql (by show [_, _, _, _, Value.int _] = _; simp [nI_1]) n9
                  · rw [bI_e0] at c87
                    have c87 : (neK (tiA (J (R (x + 1) vj + 1)) (J (x + 2 + 1)) (J (R (x + 1) cb + 1)) nn) (tiC (J (R (x + 1) vj + 2)) (J (x + 2 + 2)) (J (R (x + 1) cb + 2)) (nn * 2)) (J (R (x + 1) vj + 1)) (J (R (x + 1) vj + 2)) s nn) k = true := by simpa using c87
                    have n9 := ih (k + 1) (by omega) (va_up (va_up Ii x (va_up (Ii x) 10 (Ii x 10 + 1))) (r + 3) (va_up (va_up Ii x (va_up (Ii x) 10 (Ii x 10 + 1)) (r + 3)) k (Ii x 10))) (by
                      rw [tnD_t c87]
                      refine (n1.setE (ce' := I x 10 + nI (cntP (neK (tiA (J (R (x + 1) vj + 1)) (J (x + 2 + 1)) (J (R (x + 1) cb + 1)) nn) (tiC (J (R (x + 1) vj + 2)) (J (x + 2 + 2)) (J (R (x + 1) cb + 2)) (nn * 2)) (J (R (x + 1) vj + 1)) (J (R (x + 1) vj + 2)) s nn) (k + 1))) (F := va_up (Ii x) 10 (Ii x 10 + 1)) (by rw [i10, ce_1]; simp [cntP, c87])).setD (fun n hn => ?_)
                      by_cases e : n = k
                      · subst e; rw [va_up_self, va_up_self, i10]
                      · rw [va_up_ne _ _ e, va_up_ne _ _ e, va_up_ne _ _ (show r + 3 ≠ x by omega)]; exact n1.2.2.2.2.2.2.2.2.2.1 n hn)
                    refine x_aload_n dX2_turn_90 rfl ?_
                    refine x_getq dX2_turn_91 fl_X2_90 hr.k hr.r6 rfl ?_
                    refine x_iload dX2_turn_94 rfl ?_
                    refine x_aload_n dX2_turn_96 rfl ?_
                    refine x_eV (c_X2_nextChunk l D cw1) dX2_turn_97 lk_X2_98 im_X2_nextChunk se_X2_nextChunk cd_X2_nextChunk (by decide) cw1.k vcX2 rfl (by decide) rfl (by first | decide | simp [Value.category]) ?_
                    refine x_iast (k) dX2_turn_100 hr.k6 hr.n6 rfl (by omega) (by decide) ?_
                    refine x_iinc dX2_turn_101 rfl rfl (by decide) rfl ?_
                    refine x_goto 70 dX2_turn_104 (by decide) ?_
                    exact x_eql (by show [_, _, _, _, Value.int _] = _; simp [nI_1]) n9
            refine x_astore_n dX2_turn_50 (by decide) rfl ?_
            refine x_aload_n dX2_turn_51 rfl ?_
            refine x_ifnonnull 58 dX2_turn_52 (by decide) (fun c52 => ?_) (fun c52 => ?_)
            · refine x_aload_n dX2_turn_58 rfl ?_
              refine x_aload_n dX2_turn_59 rfl ?_
              refine x_aload_n dX2_turn_60 rfl ?_
              refine x_getq dX2_turn_61 fl_X2_42 cw0.k rfl rfl ?_
              rw [e4]
              refine x_eW (c_X2_turnItems l D cw0 hr hbb i5 hnn g0 gb hapb) dX2_turn_64 lk_X2_153 im_X2_turnItems se_X2_turnItems cd_X2_turnItems (by decide) cw0.k vcX2 rfl (by decide) rfl (by first | decide | simp [Value.category]) ?_
              rw [← hJ2]
              refine x_iconst (v := (0)) dX2_turn_67 (by decide +kernel) ?_
              refine x_istore dX2_turn_68 (by decide) rfl ?_
              exact x_eql rfl (loop nc 0 rfl I1 (by rw [tnD_0, show I x 10 + nI (cntP (neK (tiA (J (R (x + 1) vj + 1)) (J (x + 2 + 1)) (J (R (x + 1) cb + 1)) nn) (tiC (J (R (x + 1) vj + 2)) (J (x + 2 + 2)) (J (R (x + 1) cb + 2)) (nn * 2)) (J (R (x + 1) vj + 1)) (J (R (x + 1) vj + 2)) s nn) 0) = I x 10 from Int32.add_zero _]; exact n2))
            · exact absurd c52 n0.2.1
          · obtain rfl : nv = 60 := by omega
            refine x_aload_n dX2_turn_45 rfl ?_
            refine x_aload_n dX2_turn_46 rfl ?_
            refine x_eV (c_X2_makeFromF l D cw h8) dX2_turn_47 lk_X2_78 im_X2_makeFrom se_X2_makeFrom cd_X2_makeFrom (by decide) cw.k vcX2 rfl (by decide) rfl (by first | decide | simp [Value.category]) ?_
            refine x_astore_n dX2_turn_50 (by decide) rfl ?_
            refine x_aload_n dX2_turn_51 rfl ?_
            refine x_ifnonnull 58 dX2_turn_52 (by decide) (fun c52 => ?_) (fun c52 => ?_)
            · exact absurd rfl c52
            · refine x_bipush (v := (-3)) dX2_turn_55 (by decide +kernel) ?_
              refine x_zi dX2_turn_57 ⟨by rw [if_pos hct]; rfl, ?_⟩
              rw [if_neg (fun z => by omega)]
              exact Sm.rf
        · rw [bI_e0] at c39
          have hct : ¬ anyP (ctB J (R (x + 1) vj) (R (x + 1) ca) (R (x + 1) cb)) (nn * 2) = false := c39
          refine x_bipush (v := (-2)) dX2_turn_42 (by decide +kernel) ?_
          refine x_zi dX2_turn_44 ⟨by rw [if_neg hct], ?_⟩
          rw [if_neg (fun z => hct z.2.1)]
          exact Sm.rf
  · have c7 := liv_n (fun z => hvv _ z.1.2) c7
    refine x_iconst (v := (-1)) dX2_turn_10 (by decide +kernel) ?_
    refine x_zi dX2_turn_11 ⟨by rw [if_neg c7], ?_⟩
    rw [if_neg (fun z => c7 z.1)]
    exact Sm.rf
set_option maxHeartbeats 4000000 in
theorem c_X2_turnN (l : Launch) (D : va_G) {K N : Nat → Nat} {R : Nat → Nat → Nat} {I : Nat → Nat → Int32} {J : Nat → Nat → Int64} {sz : Nat} {x : Nat} (cw : CW x K N R) {nv : Nat} (h8 : I x 8 = nI nv) (hnv : nv ≤ 60) (hvv : ∀ i, i < nv → R (x + 1) i ≠ 0) (h3 : R x 3 = 0) (qv : Int32) : XM l D yX2_turn cX2_turn 5 (some .int) 4 0 0 [.ref x, .int qv] K N R I J sz (Zx (some (.int (if pL R I x nv qv then -2 else -1))) K N R I J sz) := by
  refine XM.of (own := RX2) (nm := "turn") (by decide +kernel) rfl rfl (by simp [xla, Value.category]) [.ref x, .int qv, .null, .null, .null] rfl (Zx.rt ⟨_, rfl⟩) ?_
  refine x_aload_n dX2_turn_0 rfl ?_
  refine x_iload_n dX2_turn_1 rfl ?_
  refine x_eV (c_X2_living l D cw h8 hnv hvv _) dX2_turn_2 lk_X2_67 im_X2_living se_X2_living cd_X2_living (by decide) cw.k vcX2 rfl (by decide) rfl (by first | decide | simp [Value.category]) ?_
  refine x_astore_n dX2_turn_5 (by decide) rfl ?_
  refine x_aload_n dX2_turn_6 rfl ?_
  refine x_ifnonnull 12 dX2_turn_7 (by decide) (fun c7 => ?_) (fun c7 => ?_)
  · have hv : pL R I x nv qv := liv_s c7
    simp only [if_pos hv]
    obtain ⟨vj, hbv, rfl⟩ := pN_ex hv.1
    have hcv : (nI vj).toNatClampNeg = vj := nI_clamp (by omega)
    simp only [hcv]
    have hw := cw.wv (show vj < 60 by omega) (hvv vj hbv)
    refine x_aload_n dX2_turn_12 rfl ?_
    refine x_getq dX2_turn_13 fl_X2_38 cw.k rfl rfl ?_
    refine x_ifnull 42 dX2_turn_16 (by decide) (fun c16 => ?_) (fun c16 => ?_)
    · refine x_bipush (v := (-2)) dX2_turn_42 (by decide +kernel) ?_
      exact x_ri dX2_turn_44 rfl
    · exact absurd h3 c16
  · have c7 := liv_n (fun z => hvv _ z.1.2) c7
    refine x_iconst (v := (-1)) dX2_turn_10 (by decide +kernel) ?_
    exact x_ri dX2_turn_11 (by rw [if_neg c7])
