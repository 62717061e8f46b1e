/-! The class: ancestors, ways, letting go, what was -/
def ledL (W : Nat → Int64) (sq : Int64) : Nat → Int64
  | 0 => 0
  | k + 1 => if bt sq k = true then ledL W sq k ||| W k else ledL W sq k
def rchL (W : Nat → Int64) (nn : Nat) (s0 : Int64) : Nat → Int64
  | 0 => s0
  | k + 1 => rchL W nn s0 k ||| ledL W (rchL W nn s0 k) nn
/-- the first of the sets that holds t -/
def rchA (W : Nat → Int64) (nn : Nat) (s0 : Int64) (t : Nat) : Nat → Nat → Int32
  | _, 0 => -99999999
  | k, f + 1 => if bt (rchL W nn s0 k) t = true then nI k else rchA W nn s0 t (k + 1) f
set_option maxHeartbeats 4000000 in
theorem c_X2_ancestor (l : Launch) (D : va_G) {K N : Nat → Nat} {R : Nat → Nat → Nat} {I : Nat → Nat → Int32} {J : Nat → Nat → Int64} {sz : Nat} {x : Nat} (cw : CW x K N R) {nv : Nat} (h8 : I x 8 = nI nv) (hnv : nv ≤ 60) (hvv : ∀ i, i < nv → R (x + 1) i ≠ 0) (hpar : ∀ i, 0 < i → i < nv → ∃ p, p < i ∧ I (R (x + 1) i) 1 = nI p) (qv qa : Int32) : XM l D yX2_ancestor cX2_ancestor 6 (some .int) 2 0 0 [.ref x, .int qv, .int qa] K N R I J sz (Zx (some (.int (if pN nv qv ∧ pN nv qa then nI (anc (fun i => (I (R (x + 1) i) 1).toNatClampNeg) 120 qv.toNatClampNeg qa.toNatClampNeg) else -1))) K N R I J sz) := by
  refine XM.of (own := RX2) (nm := "ancestor") (by decide +kernel) rfl rfl (by simp [xla, Value.category]) [.ref x, .int qv, .int qa, .null, .null, .null] rfl (Zx.rt ⟨_, rfl⟩) ?_
  refine x_aload_n dX2_ancestor_0 rfl ?_
  refine x_iload_n dX2_ancestor_1 rfl ?_
  refine x_eV (c_X2_everMade l D cw h8 hnv _) dX2_ancestor_2 lk_X2_182 im_X2_everMade se_X2_everMade cd_X2_everMade (by decide) cw.k vcX2 rfl (by decide) rfl (by first | decide | simp [Value.category]) ?_
  refine x_ifnull 16 dX2_ancestor_5 (by decide) (fun c5 => ?_) (fun c5 => ?_)
  · have c5 := liv_n (fun z => hvv _ z.2) c5
    have hG : ¬ (pN nv qv ∧ pN nv qa) := fun z => c5 z.1
    refine x_iconst (v := (-1)) dX2_ancestor_16 (by decide +kernel) ?_
    exact x_ri dX2_ancestor_17 (by rw [if_neg hG])
  · have hv := liv_s c5
    obtain ⟨vj, hvj, rfl⟩ := pN_ex hv
    refine x_aload_n dX2_ancestor_8 rfl ?_
    refine x_iload_n dX2_ancestor_9 rfl ?_
    refine x_eV (c_X2_everMade l D cw h8 hnv _) dX2_ancestor_10 lk_X2_182 im_X2_everMade se_X2_everMade cd_X2_everMade (by decide) cw.k vcX2 rfl (by decide) rfl (by first | decide | simp [Value.category]) ?_
    refine x_ifnonnull 18 dX2_ancestor_13 (by decide) (fun c13 => ?_) (fun c13 => ?_)
    · have ha := liv_s c13
      obtain ⟨aj, haj, rfl⟩ := pN_ex ha
      have hG := And.intro hv ha
      have loop : ∀ (f xq yq : Nat), xq + yq < f → f ≤ 120 → xq < nv → yq < nv → anc (fun i => (I (R (x + 1) i) 1).toNatClampNeg) 120 vj aj = anc (fun i => (I (R (x + 1) i) 1).toNatClampNeg) f xq yq → XW l D (fun _ => True) RX2 "ancestor" cX2_ancestor 6 2 0 0 K sz (Zx (some (.int (if pN nv (nI vj) ∧ pN nv (nI aj) then nI (anc (fun i => (I (R (x + 1) i) 1).toNatClampNeg) 120 (nI vj).toNatClampNeg (nI aj).toNatClampNeg) else -1))) K N R I J sz) 26 [.ref x, .int (nI vj), .int (nI aj), .int (nI xq), .int (nI yq), .int (nI (120 - f))] [] K N R (I) (J) sz 0 0 := by
        intro f
        induction f with
        | zero => intro xq yq h; omega
        | succ f ih =>
          intro xq yq hf hf2 hxq hyq e
          rw [show anc (fun i => (I (R (x + 1) i) 1).toNatClampNeg) (f + 1) xq yq = if xq = yq then xq else if yq < xq then anc (fun i => (I (R (x + 1) i) 1).toNatClampNeg) f ((I (R (x + 1) xq) 1).toNatClampNeg) yq else anc (fun i => (I (R (x + 1) i) 1).toNatClampNeg) f xq ((I (R (x + 1) yq) 1).toNatClampNeg) from rfl] at e
          refine x_iload_n dX2_ancestor_26 rfl ?_
          refine x_iload dX2_ancestor_27 rfl ?_
          refine x_icmp_eq 68 dX2_ancestor_29 (by decide) (fun c29 => ?_) (fun c29 => ?_)
          · rw [nI_eq (by omega) (by omega)] at c29
            refine x_iload_n dX2_ancestor_68 rfl ?_
            exact x_ri dX2_ancestor_69 (by rw [if_pos hG, clz (show vj < 64 by omega), clz (show aj < 64 by omega), e, if_pos c29])
          · rw [nI_eq (by omega) (by omega)] at c29
            refine x_iload dX2_ancestor_32 rfl ?_
            refine x_bipush (v := (nI 120)) dX2_ancestor_34 (by decide +kernel) ?_
            refine x_icmp_ge 68 dX2_ancestor_36 (by decide) (fun c36 => ?_) (fun c36 => ?_)
            · exact absurd c36 (nI_ge (by omega) (by omega))
            · refine x_iload_n dX2_ancestor_39 rfl ?_
              refine x_iload dX2_ancestor_40 rfl ?_
              refine x_icmp_le 54 dX2_ancestor_42 (by decide) (fun c42 => ?_) (fun c42 => ?_)
              · have c42 : xq ≤ yq := (nI_leI (by omega) (by omega)).mp c42
                obtain ⟨pq, hpq, epq⟩ := hpar yq (by omega) hyq
                have hgo := ih xq pq (by omega) (by omega) hxq (by omega) (by rw [e, if_neg c29, if_neg (by omega), epq, nI_clamp (by omega)])
                refine x_aload_n dX2_ancestor_54 rfl ?_
                refine x_iload dX2_ancestor_55 rfl ?_
                refine x_eV (c_X2_parentOf l D cw h8 hnv hvv hyq) dX2_ancestor_57 lk_X2_188 im_X2_parentOf se_X2_parentOf cd_X2_parentOf (by decide) cw.k vcX2 rfl (by decide) rfl (by first | decide | simp [Value.category]) ?_
                rw [epq]
                refine x_istore dX2_ancestor_60 (by decide) rfl ?_
                refine x_iinc dX2_ancestor_62 rfl rfl (by decide) rfl ?_
                refine x_goto 26 dX2_ancestor_65 (by decide) ?_
                exact x_eql (by show [_, _, _, Value.int _, Value.int _, Value.int _] = _; rw [show 120 - f = (120 - (f + 1)) + 1 by omega]; simp [nI_1]) hgo
              · have c42 : ¬ xq ≤ yq := fun z => c42 ((nI_leI (by omega) (by omega)).mpr z)
                obtain ⟨pq, hpq, epq⟩ := hpar xq (by omega) hxq
                have hgo := ih pq yq (by omega) (by omega) (by omega) hyq (by rw [e, if_neg c29, if_pos (by omega), epq, nI_clamp (by omega)])
                refine x_aload_n dX2_ancestor_45 rfl ?_
                refine x_iload_n dX2_ancestor_46 rfl ?_
                refine x_eV (c_X2_parentOf l D cw h8 hnv hvv hxq) dX2_ancestor_47 lk_X2_188 im_X2_parentOf se_X2_parentOf cd_X2_parentOf (by decide) cw.k vcX2 rfl (by decide) rfl (by first | decide | simp [Value.category]) ?_
                rw [epq]
                refine x_istore_n dX2_ancestor_50 (by decide) rfl ?_
                refine x_goto 62 dX2_ancestor_51 (by decide) ?_
                refine x_iinc dX2_ancestor_62 rfl rfl (by decide) rfl ?_
                refine x_goto 26 dX2_ancestor_65 (by decide) ?_
                exact x_eql (by show [_, _, _, Value.int _, Value.int _, Value.int _] = _; rw [show 120 - f = (120 - (f + 1)) + 1 by omega]; simp [nI_1]) hgo
      refine x_iload_n dX2_ancestor_18 rfl ?_
      refine x_istore_n dX2_ancestor_19 (by decide) rfl ?_
      refine x_iload_n dX2_ancestor_20 rfl ?_
      refine x_istore dX2_ancestor_21 (by decide) rfl ?_
      refine x_iconst (v := (0)) dX2_ancestor_23 (by decide +kernel) ?_
      refine x_istore dX2_ancestor_24 (by decide) rfl ?_
      exact x_eql (by show [_, _, _, Value.int _, Value.int _, Value.int _] = _; rfl) (loop 120 vj aj (by omega) (by omega) hvj haj rfl)
    · have c13 := liv_n (fun z => hvv _ z.2) c13
      have hG : ¬ (pN nv (nI vj) ∧ pN nv qa) := fun z => c13 z.2
      refine x_iconst (v := (-1)) dX2_ancestor_16 (by decide +kernel) ?_
      exact x_ri dX2_ancestor_17 (by rw [if_neg hG])
set_option maxHeartbeats 4000000 in
theorem c_X2_ledToFrom (l : Launch) (D : va_G) {K N : Nat → Nat} {R : Nat → Nat → Nat} {I : Nat → Nat → Int32} {J : Nat → Nat → Int64} {sz : Nat} {x : Nat} (cw : CW x K N R) {v : Nat} (hw : VW v K N R) {nn : Nat} (h5 : I x 5 = nI nn) (hnn : nn ≤ 64) {sq : Int64} : XM l D yX2_ledToFrom cX2_ledToFrom 7 (some .long) 1 0 0 [.ref x, .ref v, .long sq] K N R I J sz (Zx (some (.long (ledL (J (v + 1)) sq nn))) K N R I J sz) := by
  have loop : ∀ (t k : Nat), t + k = nn → XW l D (fun _ => True) RX2 "ledToFrom" cX2_ledToFrom 7 1 0 0 K sz (Zx (some (.long (ledL (J (v + 1)) sq nn))) K N R I J sz) 6 [.ref x, .ref v, .long sq, .null, .long (ledL (J (v + 1)) sq k), .null, .int (nI k)] [] K N R (I) (J) sz 0 0 := by
    intro t
    induction t with
    | zero =>
      intro k hk
      refine x_iload dX2_ledToFrom_6 rfl ?_
      refine x_aload_n dX2_ledToFrom_8 rfl ?_
      refine x_geti dX2_ledToFrom_9 fl_X2_29 cw.k rfl ?_
      refine x_icmp_ge 42 dX2_ledToFrom_12 (by decide) (fun c12 => ?_) (fun c12 => ?_)
      · obtain rfl : k = nn := by omega
        refine x_lload dX2_ledToFrom_42 rfl ?_
        exact x_rl dX2_ledToFrom_44 rfl
      · exact absurd (by rw [h5]; exact nI_le (by omega) (by omega)) c12
    | succ t ih =>
      intro k hk
      refine x_iload dX2_ledToFrom_6 rfl ?_
      refine x_aload_n dX2_ledToFrom_8 rfl ?_
      refine x_geti dX2_ledToFrom_9 fl_X2_29 cw.k rfl ?_
      refine x_icmp_ge 42 dX2_ledToFrom_12 (by decide) (fun c12 => ?_) (fun c12 => ?_)
      · rw [h5] at c12; exact absurd c12 (nI_ge (by omega) (by omega))
      · refine x_lload_n dX2_ledToFrom_15 rfl ?_
        refine x_iload dX2_ledToFrom_16 rfl ?_
        refine x_eS (c_X2_isBitSet l D (by omega)) dX2_ledToFrom_18 lk_X2_123 st_X2_isBitSet cd_X2_isBitSet rfl (by decide) rfl (by first | decide | simp [Value.category]) ?_
        refine x_if_eq 36 dX2_ledToFrom_21 (by decide) (fun c21 => ?_) (fun c21 => ?_)
        · rw [bI_e0] at c21
          refine x_iinc dX2_ledToFrom_36 rfl rfl (by decide) rfl ?_
          refine x_goto 6 dX2_ledToFrom_39 (by decide) ?_
          exact x_eql (by show [_, _, _, _, Value.long _, _, Value.int _] = _; simp [ledL, c21, nI_1]) (ih (k + 1) (by omega))
        · rw [bI_n0] at c21
          refine x_lload dX2_ledToFrom_24 rfl ?_
          refine x_aload_n dX2_ledToFrom_26 rfl ?_
          refine x_getq dX2_ledToFrom_27 fl_X2_110 hw.k hw.r4 rfl ?_
          refine x_iload dX2_ledToFrom_30 rfl ?_
          refine x_lald (k) dX2_ledToFrom_32 hw.k4 hw.n4 rfl (by omega) (by decide) ?_
          refine x_lor dX2_ledToFrom_33 ?_
          refine x_lstore dX2_ledToFrom_34 (by decide) rfl ?_
          refine x_iinc dX2_ledToFrom_36 rfl rfl (by decide) rfl ?_
          refine x_goto 6 dX2_ledToFrom_39 (by decide) ?_
          exact x_eql (by show [_, _, _, _, Value.long _, _, Value.int _] = _; simp [ledL, c21, nI_1]) (ih (k + 1) (by omega))
  refine XM.of (own := RX2) (nm := "ledToFrom") (by decide +kernel) rfl rfl (by simp [xla, Value.category]) [.ref x, .ref v, .long sq, .null, .null, .null, .null] rfl (Zx.rt ⟨_, rfl⟩) ?_
  refine x_lconst (v := 0) dX2_ledToFrom_0 (by decide +kernel) ?_
  refine x_lstore dX2_ledToFrom_1 (by decide) rfl ?_
  refine x_iconst (v := (0)) dX2_ledToFrom_3 (by decide +kernel) ?_
  refine x_istore dX2_ledToFrom_4 (by decide) rfl ?_
  exact x_eql rfl (loop nn 0 rfl)
set_option maxHeartbeats 4000000 in
theorem c_X2_reach (l : Launch) (D : va_G) {K N : Nat → Nat} {R : Nat → Nat → Nat} {I : Nat → Nat → Int32} {J : Nat → Nat → Int64} {sz : Nat} {x : Nat} (cw : CW x K N R) {nv : Nat} (h8 : I x 8 = nI nv) (hnv : nv ≤ 60) (hvv : ∀ i, i < nv → R (x + 1) i ≠ 0) {nn : Nat} (h5 : I x 5 = nI nn) (hnn : nn ≤ 64) (qv qa qb : Int32) : XM l D yX2_reach cX2_reach 8 (some .int) 2 0 0 [.ref x, .int qv, .int qa, .int qb] K N R I J sz (Zx (some (.int (if pL R I x nv qv ∧ pN nn qa ∧ pN nn qb then rchA (J (R (x + 1) qv.toNatClampNeg + 1)) nn ((1 : Int64) <<< (qa.toInt64 &&& 63)) qb.toNatClampNeg 0 nn else -1))) K N R I J sz) := by
  refine XM.of (own := RX2) (nm := "reach") (by decide +kernel) rfl rfl (by simp [xla, Value.category]) [.ref x, .int qv, .int qa, .int qb, .null, .null, .null, .null] rfl (Zx.rt ⟨_, rfl⟩) ?_
  refine x_aload_n dX2_reach_0 rfl ?_
  refine x_iload_n dX2_reach_1 rfl ?_
  refine x_eV (c_X2_living l D cw h8 hnv hvv _) dX2_reach_2 lk_X2_67 im_X2_living se_X2_living cd_X2_living (by decide) cw.k vcX2 rfl (by decide) rfl (by first | decide | simp [Value.category]) ?_
  refine x_astore dX2_reach_5 (by decide) rfl ?_
  refine x_aload dX2_reach_7 rfl ?_
  refine x_ifnull 28 dX2_reach_9 (by decide) (fun c9 => ?_) (fun c9 => ?_)
  · have c9 := liv_n (fun z => hvv _ z.1.2) c9
    have hG : ¬ (pL R I x nv qv ∧ pN nn qa ∧ pN nn qb) := fun z => c9 z.1
    refine x_iconst (v := (-1)) dX2_reach_28 (by decide +kernel) ?_
    exact x_ri dX2_reach_29 (by rw [if_neg hG])
  · have hv : pL R I x nv qv := liv_s c9
    simp only [if_pos hv]
    obtain ⟨vj, hbv, rfl⟩ := pN_ex hv.1
    have hcv : (nI vj).toNatClampNeg = vj := nI_clamp (by omega)
    simp only [hcv]
    have hw := cw.wv (show vj < 60 by omega) (hvv vj hbv)
    refine x_aload_n dX2_reach_12 rfl ?_
    refine x_iload_n dX2_reach_13 rfl ?_
    refine x_eV (c_X2_isNode l D cw h5 hnn _) dX2_reach_14 lk_X2_75 im_X2_isNode se_X2_isNode cd_X2_isNode (by decide) cw.k vcX2 rfl (by decide) rfl (by first | decide | simp [Value.category]) ?_
    refine x_if_eq 28 dX2_reach_17 (by decide) (fun c17 => ?_) (fun c17 => ?_)
    · rw [bI_e0] at c17
      have hG : ¬ (pL R I x nv (nI vj) ∧ pN nn qa ∧ pN nn qb) := fun z => c17 z.2.1
      refine x_iconst (v := (-1)) dX2_reach_28 (by decide +kernel) ?_
      exact x_ri dX2_reach_29 (by rw [if_neg hG])
    · rw [bI_n0] at c17
      obtain ⟨aj, haj, rfl⟩ := pN_ex c17
      refine x_aload_n dX2_reach_20 rfl ?_
      refine x_iload_n dX2_reach_21 rfl ?_
      refine x_eV (c_X2_isNode l D cw h5 hnn _) dX2_reach_22 lk_X2_75 im_X2_isNode se_X2_isNode cd_X2_isNode (by decide) cw.k vcX2 rfl (by decide) rfl (by first | decide | simp [Value.category]) ?_
      refine x_if_ne 30 dX2_reach_25 (by decide) (fun c25 => ?_) (fun c25 => ?_)
      · rw [bI_n0] at c25
        obtain ⟨bj, hbj, rfl⟩ := pN_ex c25
        have hG : pL R I x nv (nI vj) ∧ pN nn (nI aj) ∧ pN nn (nI bj) := ⟨hv, c17, c25⟩
        have loop : ∀ (Tq k : Nat), Tq + k = nn → rchA (J (R (x + 1) vj + 1)) nn ((1 : Int64) <<< ((nI aj).toInt64 &&& 63)) bj 0 nn = rchA (J (R (x + 1) vj + 1)) nn ((1 : Int64) <<< ((nI aj).toInt64 &&& 63)) bj k Tq → XW l D (fun _ => True) RX2 "reach" cX2_reach 8 2 0 0 K sz (Zx (some (.int (if pL R I x nv (nI vj) ∧ pN nn (nI aj) ∧ pN nn (nI bj) then rchA (J (R (x + 1) vj + 1)) nn ((1 : Int64) <<< ((nI aj).toInt64 &&& 63)) (nI bj).toNatClampNeg 0 nn else -1))) K N R I J sz) 38 [.ref x, .int (nI vj), .int (nI aj), .int (nI bj), .ref (R (x + 1) vj), .long (rchL (J (R (x + 1) vj + 1)) nn ((1 : Int64) <<< ((nI aj).toInt64 &&& 63)) k), .null, .int (nI k)] [] K N R (I) (J) sz 0 0 := by
          intro Tq
          induction Tq with
          | zero =>
            intro k hk e
            obtain rfl : k = nn := by omega
            refine x_iload dX2_reach_38 rfl ?_
            refine x_aload_n dX2_reach_40 rfl ?_
            refine x_geti dX2_reach_41 fl_X2_29 cw.k rfl ?_
            refine x_icmp_ge 78 dX2_reach_44 (by decide) (fun c44 => ?_) (fun c44 => ?_)
            · refine x_ldc dX2_reach_78 ki_X2_109 ?_
              exact x_ri dX2_reach_80 (by rw [if_pos hG, clz (show bj < 64 by omega), e]; rfl)
            · exact absurd (by rw [h5]; exact nI_le (by omega) (by omega)) c44
          | succ Tq ih =>
            intro k hk e
            rw [show rchA (J (R (x + 1) vj + 1)) nn ((1 : Int64) <<< ((nI aj).toInt64 &&& 63)) bj k (Tq + 1) = if bt (rchL (J (R (x + 1) vj + 1)) nn ((1 : Int64) <<< ((nI aj).toInt64 &&& 63)) k) bj = true then nI k else rchA (J (R (x + 1) vj + 1)) nn ((1 : Int64) <<< ((nI aj).toInt64 &&& 63)) bj (k + 1) Tq from rfl] at e
            refine x_iload dX2_reach_38 rfl ?_
            refine x_aload_n dX2_reach_40 rfl ?_
            refine x_geti dX2_reach_41 fl_X2_29 cw.k rfl ?_
            refine x_icmp_ge 78 dX2_reach_44 (by decide) (fun c44 => ?_) (fun c44 => ?_)
            · rw [h5] at c44; exact absurd c44 (nI_ge (by omega) (by omega))
            · refine x_lload dX2_reach_47 rfl ?_
              refine x_iload_n dX2_reach_49 rfl ?_
              refine x_eS (c_X2_isBitSet l D (by omega)) dX2_reach_50 lk_X2_123 st_X2_isBitSet cd_X2_isBitSet rfl (by decide) rfl (by first | decide | simp [Value.category]) ?_
              refine x_if_eq 59 dX2_reach_53 (by decide) (fun c53 => ?_) (fun c53 => ?_)
              · rw [bI_e0] at c53
                refine x_lload dX2_reach_59 rfl ?_
                refine x_aload_n dX2_reach_61 rfl ?_
                refine x_aload dX2_reach_62 rfl ?_
                refine x_lload dX2_reach_64 rfl ?_
                refine x_eV (c_X2_ledToFrom l D cw hw h5 hnn) dX2_reach_66 lk_X2_127 im_X2_ledToFrom se_X2_ledToFrom cd_X2_ledToFrom (by decide) cw.k vcX2 rfl (by decide) rfl (by first | decide | simp [Value.category]) ?_
                refine x_lor dX2_reach_69 ?_
                refine x_lstore dX2_reach_70 (by decide) rfl ?_
                refine x_iinc dX2_reach_72 rfl rfl (by decide) rfl ?_
                refine x_goto 38 dX2_reach_75 (by decide) ?_
                exact x_eql (by show [_, _, _, _, _, Value.long _, _, Value.int _] = _; simp [rchL, nI_1]) (ih (k + 1) (by omega) (by rw [e, if_neg c53]))
              · rw [bI_n0] at c53
                refine x_iload dX2_reach_56 rfl ?_
                exact x_ri dX2_reach_58 (by rw [if_pos hG, clz (show bj < 64 by omega), e, if_pos c53])
        refine x_lconst (v := 1) dX2_reach_30 (by decide +kernel) ?_
        refine x_iload_n dX2_reach_31 rfl ?_
        refine x_lshl dX2_reach_32 rfl ?_
        refine x_lstore dX2_reach_33 (by decide) rfl ?_
        refine x_iconst (v := (0)) dX2_reach_35 (by decide +kernel) ?_
        refine x_istore dX2_reach_36 (by decide) rfl ?_
        exact x_eql (by show [_, _, _, _, _, Value.long _, _, Value.int _] = _; rfl) (loop nn 0 rfl rfl)
      · rw [bI_e0] at c25
        have hG : ¬ (pL R I x nv (nI vj) ∧ pN nn (nI aj) ∧ pN nn qb) := fun z => c25 z.2.2
        refine x_iconst (v := (-1)) dX2_reach_28 (by decide +kernel) ?_
        exact x_ri dX2_reach_29 (by rw [if_neg hG])
set_option maxHeartbeats 4000000 in
theorem c_X2_isChunkHeld (l : Launch) (D : va_G) {K N : Nat → Nat} {R : Nat → Nat → Nat} {I : Nat → Nat → Int32} {J : Nat → Nat → Int64} {sz : Nat} {x : Nat} (cw : CW x K N R) {nv : Nat} (h8 : I x 8 = nI nv) (hnv : nv ≤ 60) (hvv : ∀ i, i < nv → R (x + 1) i ≠ 0) {k : Nat} {id : Int32} (hk : k < 64) : XM l D yX2_isChunkHeld cX2_isChunkHeld 5 (some .boolean) 2 0 0 [.ref x, .int (nI k), .int id] K N R I J sz (Zx (some (.int (bI (anyP (fun i => I (R (x + 1) i) 3 == 0 && I (R (x + 1) i + 3) k == id) nv = true)))) K N R I J sz) := by
  have loop : ∀ (Tq i : Nat), Tq + i = nv → (∀ j, j < i → (fun i => I (R (x + 1) i) 3 == 0 && I (R (x + 1) i + 3) k == id) j = false) → XW l D (fun _ => True) RX2 "isChunkHeld" cX2_isChunkHeld 5 2 0 0 K sz (Zx (some (.int (bI (anyP (fun i => I (R (x + 1) i) 3 == 0 && I (R (x + 1) i + 3) k == id) nv = true)))) K N R I J sz) 2 [.ref x, .int (nI k), .int id, .int (nI i), .null] [] K N R (I) (J) sz 0 0 := by
    intro Tq
    induction Tq with
    | zero =>
      intro i hi hf
      obtain rfl : i = nv := by omega
      refine x_iload_n dX2_isChunkHeld_2 rfl ?_
      refine x_aload_n dX2_isChunkHeld_3 rfl ?_
      refine x_geti dX2_isChunkHeld_4 fl_X2_45 cw.k rfl ?_
      refine x_icmp_ge 41 dX2_isChunkHeld_7 (by decide) (fun c7 => ?_) (fun c7 => ?_)
      · refine x_iconst (v := (0)) dX2_isChunkHeld_41 (by decide +kernel) ?_
        exact x_ri dX2_isChunkHeld_42 (by rw [bI_f]; rw [anyP_f hf]; simp)
      · exact absurd (by rw [h8]; exact nI_le (by omega) (by omega)) c7
    | succ Tq ih =>
      intro i hi hf
      have hci : (nI i).toNatClampNeg = i := nI_clamp (by omega)
      have hw := cw.wv (show i < 60 by omega) (hvv i (by omega))
      refine x_iload_n dX2_isChunkHeld_2 rfl ?_
      refine x_aload_n dX2_isChunkHeld_3 rfl ?_
      refine x_geti dX2_isChunkHeld_4 fl_X2_45 cw.k rfl ?_
      refine x_icmp_ge 41 dX2_isChunkHeld_7 (by decide) (fun c7 => ?_) (fun c7 => ?_)
      · rw [h8] at c7; exact absurd c7 (nI_ge (by omega) (by omega))
      · refine x_aload_n dX2_isChunkHeld_10 rfl ?_
        refine x_iload_n dX2_isChunkHeld_11 rfl ?_
        refine x_eV (c_X2_living l D cw h8 hnv hvv _) dX2_isChunkHeld_12 lk_X2_67 im_X2_living se_X2_living cd_X2_living (by decide) cw.k vcX2 rfl (by decide) rfl (by first | decide | simp [Value.category]) ?_
        simp only [hci]
        refine x_astore dX2_isChunkHeld_15 (by decide) rfl ?_
        refine x_aload dX2_isChunkHeld_17 rfl ?_
        refine x_ifnull 35 dX2_isChunkHeld_19 (by decide) (fun c19 => ?_) (fun c19 => ?_)
        · have c19 := liv_n (fun z => hvv i (by omega)) c19
          have c19 : ¬ I (R (x + 1) i) 3 = 0 := fun z => c19 ⟨(pN_nI (by omega)).mpr (by omega), z⟩
          have hq : (fun i => I (R (x + 1) i) 3 == 0 && I (R (x + 1) i + 3) k == id) i = false := by simp [c19]
          refine x_iinc dX2_isChunkHeld_35 rfl rfl (by decide) rfl ?_
          refine x_goto 2 dX2_isChunkHeld_38 (by decide) ?_
          refine x_drop 4 ?_
          exact x_eql (by show [_, _, _, Value.int _, _] = _; simp [nI_1]) (ih (i + 1) (by omega) (lt_s hf hq))
        · have hv := liv_s c19
          rw [if_pos hv]
          refine x_aload dX2_isChunkHeld_22 rfl ?_
          refine x_getq dX2_isChunkHeld_24 fl_X2_90 hw.k hw.r6 rfl ?_
          refine x_iload_n dX2_isChunkHeld_27 rfl ?_
          refine x_iald (k) dX2_isChunkHeld_28 hw.k6 hw.n6 rfl (by omega) (by decide) ?_
          refine x_iload_n dX2_isChunkHeld_29 rfl ?_
          refine x_icmp_ne 35 dX2_isChunkHeld_30 (by decide) (fun c30 => ?_) (fun c30 => ?_)
          · have hq : (fun i => I (R (x + 1) i) 3 == 0 && I (R (x + 1) i + 3) k == id) i = false := by simp [c30]
            refine x_iinc dX2_isChunkHeld_35 rfl rfl (by decide) rfl ?_
            refine x_goto 2 dX2_isChunkHeld_38 (by decide) ?_
            refine x_drop 4 ?_
            exact x_eql (by show [_, _, _, Value.int _, _] = _; simp [nI_1]) (ih (i + 1) (by omega) (lt_s hf hq))
          · have hq : (fun i => I (R (x + 1) i) 3 == 0 && I (R (x + 1) i + 3) k == id) i = true := by simp [hv.2, c30]
            refine x_iconst (v := (1)) dX2_isChunkHeld_33 (by decide +kernel) ?_
            exact x_ri dX2_isChunkHeld_34 (by rw [bI_t]; exact anyP_t (i := i) (by omega) hq)
  refine XM.of (own := RX2) (nm := "isChunkHeld") (by decide +kernel) rfl rfl (by simp [xla, Value.category]) [.ref x, .int (nI k), .int id, .null, .null] rfl (Zx.rt bI_rt) ?_
  refine x_iconst (v := (0)) dX2_isChunkHeld_0 (by decide +kernel) ?_
  refine x_istore_n dX2_isChunkHeld_1 (by decide) rfl ?_
  exact x_eql rfl (loop nv 0 rfl (fun j hj => by omega))
