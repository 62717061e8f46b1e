/-! The reference: letGo, ancestor, joins' leaves -/
def hldB (I : Nat → Nat → Int32) (m nv vq kq : Nat) : Bool := anyP (fun i => i != vq && (I (m + 6) i == 0 && I (m + 3) (64 * i + kq) == I (m + 3) (64 * vq + kq))) nv
def anc (par : Nat → Nat) : Nat → Nat → Nat → Nat
  | 0, xq, _ => xq
  | f + 1, xq, yq => if xq = yq then xq else if yq < xq then anc par f (par xq) yq else anc par f xq (par yq)
def jnd (J : Nat → Nat → Int64) (m vb va vc n c : Nat) : Int64 := if itm J m va n c = itm J m vb n c then itm J m vc n c else itm J m va n c
abbrev cfl (J : Nat → Nat → Int64) (m vb va vc n c : Nat) : Prop := ¬ itm J m va n c = itm J m vb n c ∧ ¬ itm J m vc n c = itm J m vb n c ∧ ¬ itm J m va n c = itm J m vc n c
def unl (J : Nat → Nat → Int64) (m nn va vb n : Nat) : Bool := anyP (fun p => itm J m va n (cdp nn p) != itm J m vb n (cdp nn p)) (nn + 2)
def lkB (J : Nat → Nat → Int64) (m nn va vb s kq : Nat) : Bool := !anyP (fun i => unl J m nn va vb (s * kq + i)) (min s (nn - s * kq))
theorem cdp_lt {nn p : Nat} (hn : nn ≤ 64) (hp : p < nn + 2) : cdp nn p < 66 := by unfold cdp; split <;> omega
set_option maxHeartbeats 4000000 in
theorem c_X3_letGo (l : Launch) (D : va_G) {K N : Nat → Nat} {R : Nat → Nat → Nat} {I : Nat → Nat → Int32} {J : Nat → Nat → Int64} {sz : Nat} {m : Nat} (mw : MW m K N R) {nv nc : Nat} (h4 : I m 4 = nI nv) (hnv : nv ≤ 60) (h2 : I m 2 = nI nc) (hnc : nc ≤ 64) (qv : Int32) : XM l D yX3_letGo cX3_letGo 4 (some .int) 2 0 0 [.ref m, .int qv] K N R I J sz (Zx (some (.int (if pV I m nv qv ∧ ¬ qv = 0 then nI (cntP (fun i => !hldB I m nv qv.toNatClampNeg i) nc) else -1))) K N R (if pV I m nv qv ∧ ¬ qv = 0 then va_up I (m + 6) (va_up (I (m + 6)) qv.toNatClampNeg 1) else I) J sz) := by
  refine XM.of (own := RX3) (nm := "letGo") (by decide +kernel) rfl rfl (by simp [xla, Value.category]) [.ref m, .int qv, .null, .null] rfl (Zx.rt ⟨_, rfl⟩) ?_
  refine x_aload_n dX3_letGo_0 rfl ?_
  refine x_iload_n dX3_letGo_1 rfl ?_
  refine x_eV (c_X3_isVersion l D mw h4 hnv _) dX3_letGo_2 lk_X3_106 im_X3_isVersion se_X3_isVersion cd_X3_isVersion (by decide) mw.k vcX3 rfl (by decide) rfl (by first | decide | simp [Value.category]) ?_
  refine x_if_eq 12 dX3_letGo_5 (by decide) (fun c5 => ?_) (fun c5 => ?_)
  · rw [bI_e0] at c5
    refine x_iconst (v := (-1)) dX3_letGo_12 (by decide +kernel) ?_
    exact x_zi dX3_letGo_13 ⟨by rw [if_neg (by rintro ⟨z1, z2⟩; first | exact c5 z1 | exact z2 c9)], rfl, rfl, rfl, by rw [if_neg (by rintro ⟨z1, z2⟩; first | exact c5 z1 | exact z2 c9)], rfl, rfl⟩
  · rw [bI_n0] at c5
    refine x_iload_n dX3_letGo_8 rfl ?_
    refine x_if_ne 14 dX3_letGo_9 (by decide) (fun c9 => ?_) (fun c9 => ?_)
    · obtain ⟨vj, hvj, rfl⟩ := pN_ex c5.1
      have hG : pV I m nv (nI vj) ∧ ¬ nI vj = 0 := ⟨c5, c9⟩
      have loop : ∀ (t k : Nat), t + k = nc → XW l D (fun _ => True) RX3 "letGo" cX3_letGo 4 2 0 0 K sz (Zx (some (.int (if pV I m nv (nI vj) ∧ ¬ (nI vj) = 0 then nI (cntP (fun i => !hldB I m nv (nI vj).toNatClampNeg i) nc) else -1))) K N R (if pV I m nv (nI vj) ∧ ¬ (nI vj) = 0 then va_up I (m + 6) (va_up (I (m + 6)) (nI vj).toNatClampNeg 1) else I) J sz) 18 [.ref m, .int (nI vj), .int (nI (cntP (fun i => !hldB I m nv vj i) k)), .int (nI k)] [] K N R (I) (J) sz 0 0 := by
        intro t
        induction t with
        | zero =>
          intro k hk
          refine x_iload_n dX3_letGo_18 rfl ?_
          refine x_aload_n dX3_letGo_19 rfl ?_
          refine x_geti dX3_letGo_20 fl_X3_65 mw.k rfl ?_
          refine x_icmp_ge 60 dX3_letGo_23 (by decide) (fun c23 => ?_) (fun c23 => ?_)
          · obtain rfl : k = nc := by omega
            refine x_aload_n dX3_letGo_60 rfl ?_
            refine x_getq dX3_letGo_61 fl_X3_26 mw.k mw.r11 rfl ?_
            refine x_iload_n dX3_letGo_64 rfl ?_
            refine x_iconst (v := (1)) dX3_letGo_65 (by decide +kernel) ?_
            refine x_zast (vj) dX3_letGo_66 mw.k11 mw.n11 rfl (by omega) (by decide) (by decide) ?_
            refine x_iload_n dX3_letGo_67 rfl ?_
            exact x_zi dX3_letGo_68 ⟨by rw [if_pos hG, clz (show vj < 64 by omega)], rfl, rfl, rfl, by rw [if_pos hG, clz (show vj < 64 by omega)], rfl, rfl⟩
          · exact absurd (by rw [h2]; exact nI_le (by omega) (by omega)) c23
        | succ t ih =>
          intro k hk
          refine x_iload_n dX3_letGo_18 rfl ?_
          refine x_aload_n dX3_letGo_19 rfl ?_
          refine x_geti dX3_letGo_20 fl_X3_65 mw.k rfl ?_
          refine x_icmp_ge 60 dX3_letGo_23 (by decide) (fun c23 => ?_) (fun c23 => ?_)
          · rw [h2] at c23; exact absurd c23 (nI_ge (by omega) (by omega))
          · refine x_iload_n dX3_letGo_26 rfl ?_
            refine x_aload_n dX3_letGo_27 rfl ?_
            refine x_aload_n dX3_letGo_28 rfl ?_
            refine x_getq dX3_letGo_29 fl_X3_16 mw.k mw.r8 rfl ?_
            refine x_bipush (v := (nI 64)) dX3_letGo_32 (by decide +kernel) ?_
            refine x_iload_n dX3_letGo_34 rfl ?_
            refine x_imul dX3_letGo_35 ?_
            refine x_iload_n dX3_letGo_36 rfl ?_
            refine x_iadd dX3_letGo_37 ?_
            refine x_iald (64 * vj + k) dX3_letGo_38 mw.k8 mw.n8 (by rw [pk_mul, nI_add]) (by omega) (by decide) ?_
            refine x_iload_n dX3_letGo_39 rfl ?_
            refine x_iload_n dX3_letGo_40 rfl ?_
            refine x_eV (c_X3_isHeld l D mw (nv := nv) (k := k) (but := vj) h4 hnv (by omega) (by omega)) dX3_letGo_41 lk_X3_133 im_X3_isHeld se_X3_isHeld cd_X3_isHeld (by decide) mw.k vcX3 rfl (by decide) rfl (by first | decide | simp [Value.category]) ?_
            refine x_if_eq 51 dX3_letGo_44 (by decide) (fun c44 => ?_) (fun c44 => ?_)
            · rw [bI_e0] at c44
              have c44 : hldB I m nv vj k = false := by simpa [hldB] using c44
              refine x_iconst (v := (1)) dX3_letGo_51 (by decide +kernel) ?_
              refine x_iadd dX3_letGo_52 ?_
              refine x_istore_n dX3_letGo_53 (by decide) rfl ?_
              refine x_iinc dX3_letGo_54 rfl rfl (by decide) rfl ?_
              refine x_goto 18 dX3_letGo_57 (by decide) ?_
              exact x_eql (by show [_, _, Value.int _, Value.int _] = _; simp [cntP, c44, nI_1]) (ih (k + 1) (by omega))
            · rw [bI_n0] at c44
              have c44 : hldB I m nv vj k = true := c44
              refine x_iconst (v := (0)) dX3_letGo_47 (by decide +kernel) ?_
              refine x_goto 52 dX3_letGo_48 (by decide) ?_
              refine x_iadd dX3_letGo_52 ?_
              refine x_istore_n dX3_letGo_53 (by decide) rfl ?_
              refine x_iinc dX3_letGo_54 rfl rfl (by decide) rfl ?_
              refine x_goto 18 dX3_letGo_57 (by decide) ?_
              exact x_eql (by show [_, _, Value.int _, Value.int _] = _; simp [cntP, c44, nI_1]) (ih (k + 1) (by omega))
      refine x_iconst (v := (0)) dX3_letGo_14 (by decide +kernel) ?_
      refine x_istore_n dX3_letGo_15 (by decide) rfl ?_
      refine x_iconst (v := (0)) dX3_letGo_16 (by decide +kernel) ?_
      refine x_istore_n dX3_letGo_17 (by decide) rfl ?_
      exact loop nc 0 rfl
    · refine x_iconst (v := (-1)) dX3_letGo_12 (by decide +kernel) ?_
      exact x_zi dX3_letGo_13 ⟨by rw [if_neg (by rintro ⟨z1, z2⟩; first | exact c5 z1 | exact z2 c9)], rfl, rfl, rfl, by rw [if_neg (by rintro ⟨z1, z2⟩; first | exact c5 z1 | exact z2 c9)], rfl, rfl⟩
set_option maxHeartbeats 4000000 in
theorem c_X3_ancestor (l : Launch) (D : va_G) {K N : Nat → Nat} {R : Nat → Nat → Nat} {I : Nat → Nat → Int32} {J : Nat → Nat → Int64} {sz : Nat} {m : Nat} (mw : MW m K N R) {nv : Nat} (h4 : I m 4 = nI nv) (hnv : nv ≤ 60) (hpar : ∀ i, 0 < i → i < nv → ∃ p, p < i ∧ I (m + 4) i = nI p) (qv qa : Int32) : XM l D yX3_ancestor cX3_ancestor 5 (some .int) 1 0 0 [.ref m, .int qv, .int qa] K N R I J sz (Zx (some (.int (if pN nv qv ∧ pN nv qa then nI (anc (fun i => (I (m + 4) i).toNatClampNeg) 120 qv.toNatClampNeg qa.toNatClampNeg) else -1))) K N R I J sz) := by
  refine XM.of (own := RX3) (nm := "ancestor") (by decide +kernel) rfl rfl (by simp [xla, Value.category]) [.ref m, .int qv, .int qa, .null, .null] rfl (Zx.rt ⟨_, rfl⟩) ?_
  refine x_iload_n dX3_ancestor_0 rfl ?_
  refine x_iconst (v := (0)) dX3_ancestor_1 (by decide +kernel) ?_
  refine x_aload_n dX3_ancestor_2 rfl ?_
  refine x_geti dX3_ancestor_3 fl_X3_51 mw.k rfl ?_
  refine x_iconst (v := (1)) dX3_ancestor_6 (by decide +kernel) ?_
  refine x_isub dX3_ancestor_7 ?_
  refine x_eS (c_X3_isIn l D _ _ _) dX3_ancestor_8 lk_X3_55 st_X3_isIn cd_X3_isIn rfl (by decide) rfl (by first | decide | simp [Value.category]) ?_
  rw [h4, bI_congr (pIn_pN (n := nv) (by omega))]
  refine x_if_eq 28 dX3_ancestor_11 (by decide) (fun c11 => ?_) (fun c11 => ?_)
  · rw [bI_e0] at c11
    refine x_iconst (v := (-1)) dX3_ancestor_28 (by decide +kernel) ?_
    first
      | exact x_ri dX3_ancestor_29 (by rw [if_neg (fun z => c11 z.1)])
      | exact x_ri dX3_ancestor_29 (by rw [if_neg (fun z => c25 z.2)])
  · rw [bI_n0] at c11
    obtain ⟨vj, hvj, rfl⟩ := pN_ex c11
    refine x_iload_n dX3_ancestor_14 rfl ?_
    refine x_iconst (v := (0)) dX3_ancestor_15 (by decide +kernel) ?_
    refine x_aload_n dX3_ancestor_16 rfl ?_
    refine x_geti dX3_ancestor_17 fl_X3_51 mw.k rfl ?_
    refine x_iconst (v := (1)) dX3_ancestor_20 (by decide +kernel) ?_
    refine x_isub dX3_ancestor_21 ?_
    refine x_eS (c_X3_isIn l D _ _ _) dX3_ancestor_22 lk_X3_55 st_X3_isIn cd_X3_isIn rfl (by decide) rfl (by first | decide | simp [Value.category]) ?_
    rw [h4, bI_congr (pIn_pN (n := nv) (by omega))]
    refine x_if_ne 30 dX3_ancestor_25 (by decide) (fun c25 => ?_) (fun c25 => ?_)
    · rw [bI_n0] at c25
      obtain ⟨aj, haj, rfl⟩ := pN_ex c25
      have loop : ∀ (f xq yq : Nat), xq + yq < f → xq < nv → yq < nv → anc (fun i => (I (m + 4) i).toNatClampNeg) 120 vj aj = anc (fun i => (I (m + 4) i).toNatClampNeg) f xq yq → XW l D (fun _ => True) RX3 "ancestor" cX3_ancestor 5 1 0 0 K sz (Zx (some (.int (if pN nv (nI vj) ∧ pN nv (nI aj) then nI (anc (fun i => (I (m + 4) i).toNatClampNeg) 120 (nI vj).toNatClampNeg (nI aj).toNatClampNeg) else -1))) K N R I J sz) 35 [.ref m, .int (nI vj), .int (nI aj), .int (nI xq), .int (nI yq)] [] K N R (I) (J) sz 0 0 := by
        intro f
        induction f with
        | zero => intro xq yq h; omega
        | succ f ih =>
          intro xq yq hf hxq hyq e
          rw [show anc (fun i => (I (m + 4) i).toNatClampNeg) (f + 1) xq yq = if xq = yq then xq else if yq < xq then anc (fun i => (I (m + 4) i).toNatClampNeg) f ((I (m + 4) xq).toNatClampNeg) yq else anc (fun i => (I (m + 4) i).toNatClampNeg) f xq ((I (m + 4) yq).toNatClampNeg) from rfl] at e
          refine x_iload_n dX3_ancestor_35 rfl ?_
          refine x_iload dX3_ancestor_36 rfl ?_
          refine x_icmp_eq 69 dX3_ancestor_38 (by decide) (fun c38 => ?_) (fun c38 => ?_)
          · rw [nI_eq (by omega) (by omega)] at c38
            refine x_iload_n dX3_ancestor_69 rfl ?_
            exact x_ri dX3_ancestor_70 (by rw [if_pos ⟨c11, c25⟩, clz (show vj < 64 by omega), clz (show aj < 64 by omega), e, if_pos c38])
          · rw [nI_eq (by omega) (by omega)] at c38
            refine x_iload_n dX3_ancestor_41 rfl ?_
            refine x_iload dX3_ancestor_42 rfl ?_
            refine x_icmp_le 57 dX3_ancestor_44 (by decide) (fun c44 => ?_) (fun c44 => ?_)
            · have c44 : xq ≤ yq := (nI_leI (by omega) (by omega)).mp c44
              obtain ⟨pq, hpq, epq⟩ := hpar yq (by omega) hyq
              refine x_aload_n dX3_ancestor_57 rfl ?_
              refine x_getq dX3_ancestor_58 fl_X3_20 mw.k mw.r9 rfl ?_
              refine x_iload dX3_ancestor_61 rfl ?_
              refine x_iald (yq) dX3_ancestor_63 mw.k9 mw.n9 rfl (by omega) (by decide) ?_
              refine x_istore dX3_ancestor_64 (by decide) rfl ?_
              refine x_goto 35 dX3_ancestor_66 (by decide) ?_
              first
                | exact x_eql (by show [_, _, _, Value.int _, Value.int _] = _; rw [epq]) (ih pq yq (by omega) (by omega) hyq (by rw [e, if_neg c38, if_pos (by omega), epq, nI_clamp (by omega)]))
                | exact x_eql (by show [_, _, _, Value.int _, Value.int _] = _; rw [epq]) (ih xq pq (by omega) hxq (by omega) (by rw [e, if_neg c38, if_neg (by omega), epq, nI_clamp (by omega)]))
            · have c44 : ¬ xq ≤ yq := fun z => c44 ((nI_leI (by omega) (by omega)).mpr z)
              obtain ⟨pq, hpq, epq⟩ := hpar xq (by omega) hxq
              refine x_aload_n dX3_ancestor_47 rfl ?_
              refine x_getq dX3_ancestor_48 fl_X3_20 mw.k mw.r9 rfl ?_
              refine x_iload_n dX3_ancestor_51 rfl ?_
              refine x_iald (xq) dX3_ancestor_52 mw.k9 mw.n9 rfl (by omega) (by decide) ?_
              refine x_istore_n dX3_ancestor_53 (by decide) rfl ?_
              refine x_goto 35 dX3_ancestor_54 (by decide) ?_
              first
                | exact x_eql (by show [_, _, _, Value.int _, Value.int _] = _; rw [epq]) (ih pq yq (by omega) (by omega) hyq (by rw [e, if_neg c38, if_pos (by omega), epq, nI_clamp (by omega)]))
                | exact x_eql (by show [_, _, _, Value.int _, Value.int _] = _; rw [epq]) (ih xq pq (by omega) hxq (by omega) (by rw [e, if_neg c38, if_neg (by omega), epq, nI_clamp (by omega)]))
      refine x_iload_n dX3_ancestor_30 rfl ?_
      refine x_istore_n dX3_ancestor_31 (by decide) rfl ?_
      refine x_iload_n dX3_ancestor_32 rfl ?_
      refine x_istore dX3_ancestor_33 (by decide) rfl ?_
      exact loop 120 vj aj (by omega) hvj haj rfl
    · rw [bI_e0] at c25
      refine x_iconst (v := (-1)) dX3_ancestor_28 (by decide +kernel) ?_
      first
        | exact x_ri dX3_ancestor_29 (by rw [if_neg (fun z => c11 z.1)])
        | exact x_ri dX3_ancestor_29 (by rw [if_neg (fun z => c25 z.2)])
set_option maxHeartbeats 4000000 in
theorem c_X3_joined (l : Launch) (D : va_G) {K N : Nat → Nat} {R : Nat → Nat → Nat} {I : Nat → Nat → Int32} {J : Nat → Nat → Int64} {sz : Nat} {m : Nat} (mw : MW m K N R) {vb va vc n c : Nat} (hb : vb < 60) (ha : va < 60) (hc : vc < 60) (hn : n < 64) (hcc : c < 66) : XM l D yX3_joined cX3_joined 10 (some .long) 1 0 0 [.ref m, .int (nI vb), .int (nI va), .int (nI vc), .int (nI n), .int (tN c)] K N R I J sz (Zx (some (.long (jnd J m vb va vc n c))) K N R I J sz) := by
  refine XM.of (own := RX3) (nm := "joined") (by decide +kernel) rfl rfl (by simp [xla, Value.category]) [.ref m, .int (nI vb), .int (nI va), .int (nI vc), .int (nI n), .int (tN c), .null, .null, .null, .null] rfl (Zx.rt ⟨_, rfl⟩) ?_
  refine x_aload_n dX3_joined_0 rfl ?_
  refine x_iload_n dX3_joined_1 rfl ?_
  refine x_iload dX3_joined_2 rfl ?_
  refine x_iload dX3_joined_4 rfl ?_
  refine x_eV (c_X3_item l D mw (v := vb) (n := n) (c := c) hb hn hcc) dX3_joined_6 lk_X3_91 im_X3_item se_X3_item cd_X3_item (by decide) mw.k vcX3 rfl (by decide) rfl (by first | decide | simp [Value.category]) ?_
  refine x_lstore dX3_joined_9 (by decide) rfl ?_
  refine x_aload_n dX3_joined_11 rfl ?_
  refine x_iload_n dX3_joined_12 rfl ?_
  refine x_iload dX3_joined_13 rfl ?_
  refine x_iload dX3_joined_15 rfl ?_
  refine x_eV (c_X3_item l D mw (v := va) (n := n) (c := c) ha hn hcc) dX3_joined_17 lk_X3_91 im_X3_item se_X3_item cd_X3_item (by decide) mw.k vcX3 rfl (by decide) rfl (by first | decide | simp [Value.category]) ?_
  refine x_lstore dX3_joined_20 (by decide) rfl ?_
  refine x_lload dX3_joined_22 rfl ?_
  refine x_lload dX3_joined_24 rfl ?_
  refine x_lcmp dX3_joined_26 ?_
  refine x_if_ne 42 dX3_joined_27 (by decide) (fun c27 => ?_) (fun c27 => ?_)
  · rw [cmp_eq] at c27
    refine x_lload dX3_joined_42 rfl ?_
    first
      | exact x_rl dX3_joined_44 (by rw [jnd, if_neg c27])
      | exact x_rl dX3_joined_44 (by rw [jnd, if_pos c27])
  · rw [cmp_eq] at c27
    refine x_aload_n dX3_joined_30 rfl ?_
    refine x_iload_n dX3_joined_31 rfl ?_
    refine x_iload dX3_joined_32 rfl ?_
    refine x_iload dX3_joined_34 rfl ?_
    refine x_eV (c_X3_item l D mw (v := vc) (n := n) (c := c) hc hn hcc) dX3_joined_36 lk_X3_91 im_X3_item se_X3_item cd_X3_item (by decide) mw.k vcX3 rfl (by decide) rfl (by first | decide | simp [Value.category]) ?_
    refine x_goto 44 dX3_joined_39 (by decide) ?_
    first
      | exact x_rl dX3_joined_44 (by rw [jnd, if_neg c27])
      | exact x_rl dX3_joined_44 (by rw [jnd, if_pos c27])
set_option maxHeartbeats 4000000 in
theorem c_X3_isConflict (l : Launch) (D : va_G) {K N : Nat → Nat} {R : Nat → Nat → Nat} {I : Nat → Nat → Int32} {J : Nat → Nat → Int64} {sz : Nat} {m : Nat} (mw : MW m K N R) {vb va vc n c : Nat} (hb : vb < 60) (ha : va < 60) (hc : vc < 60) (hn : n < 64) (hcc : c < 66) : XM l D yX3_isConflict cX3_isConflict 12 (some .boolean) 1 0 0 [.ref m, .int (nI vb), .int (nI va), .int (nI vc), .int (nI n), .int (tN c)] K N R I J sz (Zx (some (.int (bI (cfl J m vb va vc n c)))) K N R I J sz) := by
  refine XM.of (own := RX3) (nm := "isConflict") (by decide +kernel) rfl rfl (by simp [xla, Value.category]) [.ref m, .int (nI vb), .int (nI va), .int (nI vc), .int (nI n), .int (tN c), .null, .null, .null, .null, .null, .null] rfl (Zx.rt bI_rt) ?_
  refine x_aload_n dX3_isConflict_0 rfl ?_
  refine x_iload_n dX3_isConflict_1 rfl ?_
  refine x_iload dX3_isConflict_2 rfl ?_
  refine x_iload dX3_isConflict_4 rfl ?_
  refine x_eV (c_X3_item l D mw (v := vb) (n := n) (c := c) hb hn hcc) dX3_isConflict_6 lk_X3_91 im_X3_item se_X3_item cd_X3_item (by decide) mw.k vcX3 rfl (by decide) rfl (by first | decide | simp [Value.category]) ?_
  refine x_lstore dX3_isConflict_9 (by decide) rfl ?_
  refine x_aload_n dX3_isConflict_11 rfl ?_
  refine x_iload_n dX3_isConflict_12 rfl ?_
  refine x_iload dX3_isConflict_13 rfl ?_
  refine x_iload dX3_isConflict_15 rfl ?_
  refine x_eV (c_X3_item l D mw (v := va) (n := n) (c := c) ha hn hcc) dX3_isConflict_17 lk_X3_91 im_X3_item se_X3_item cd_X3_item (by decide) mw.k vcX3 rfl (by decide) rfl (by first | decide | simp [Value.category]) ?_
  refine x_lstore dX3_isConflict_20 (by decide) rfl ?_
  refine x_aload_n dX3_isConflict_22 rfl ?_
  refine x_iload_n dX3_isConflict_23 rfl ?_
  refine x_iload dX3_isConflict_24 rfl ?_
  refine x_iload dX3_isConflict_26 rfl ?_
  refine x_eV (c_X3_item l D mw (v := vc) (n := n) (c := c) hc hn hcc) dX3_isConflict_28 lk_X3_91 im_X3_item se_X3_item cd_X3_item (by decide) mw.k vcX3 rfl (by decide) rfl (by first | decide | simp [Value.category]) ?_
  refine x_lstore dX3_isConflict_31 (by decide) rfl ?_
  refine x_lload dX3_isConflict_33 rfl ?_
  refine x_lload dX3_isConflict_35 rfl ?_
  refine x_lcmp dX3_isConflict_37 ?_
  refine x_if_eq 61 dX3_isConflict_38 (by decide) (fun c38 => ?_) (fun c38 => ?_)
  · rw [cmp_eq] at c38
    refine x_iconst (v := (0)) dX3_isConflict_61 (by decide +kernel) ?_
    exact x_ri dX3_isConflict_62 (by simp [bI, cfl, *])
  · rw [cmp_eq] at c38
    refine x_lload dX3_isConflict_41 rfl ?_
    refine x_lload dX3_isConflict_43 rfl ?_
    refine x_lcmp dX3_isConflict_45 ?_
    refine x_if_eq 61 dX3_isConflict_46 (by decide) (fun c46 => ?_) (fun c46 => ?_)
    · rw [cmp_eq] at c46
      refine x_iconst (v := (0)) dX3_isConflict_61 (by decide +kernel) ?_
      exact x_ri dX3_isConflict_62 (by simp [bI, cfl, *])
    · rw [cmp_eq] at c46
      refine x_lload dX3_isConflict_49 rfl ?_
      refine x_lload dX3_isConflict_51 rfl ?_
      refine x_lcmp dX3_isConflict_53 ?_
      refine x_if_eq 61 dX3_isConflict_54 (by decide) (fun c54 => ?_) (fun c54 => ?_)
      · rw [cmp_eq] at c54
        refine x_iconst (v := (0)) dX3_isConflict_61 (by decide +kernel) ?_
        exact x_ri dX3_isConflict_62 (by simp [bI, cfl, *])
      · rw [cmp_eq] at c54
        refine x_iconst (v := (1)) dX3_isConflict_57 (by decide +kernel) ?_
        refine x_goto 62 dX3_isConflict_58 (by decide) ?_
        exact x_ri dX3_isConflict_62 (by simp [bI, cfl, *])
