/-! The reference: its making; reach -/
def stX (p : Nat → Nat → Bool) (nn d x : Nat) (F : Nat → Int32) (yq : Nat) : Nat → Int32 := fun y => if y < yq ∧ F x = nI d ∧ F y = -99999999 ∧ p x y = true then nI (d + 1) else F y
def rX (p : Nat → Nat → Bool) (nn d : Nat) (F : Nat → Int32) : Nat → Nat → Int32
  | 0 => F
  | x + 1 => stX p nn d x (rX p nn d F x) nn
def rD (p : Nat → Nat → Bool) (nn : Nat) (F : Nat → Int32) : Nat → Nat → Int32
  | 0 => F
  | d + 1 => rX p nn d (rD p nn F d) nn
def far0 (g : Nat → Int32) (fq : Nat) : Nat → Int32 := va_up (fun y => if y < 64 then -99999999 else g y) fq 0
theorem none_ne {d : Nat} (h : d ≤ 64) : ¬ (-99999999 : Int32) = nI d := fun z => absurd (nI_pos (n := d) (by omega)) (by rw [← z]; decide)
theorem stX_0 {p : Nat → Nat → Bool} {nn d x : Nat} {F : Nat → Int32} : stX p nn d x F 0 = F := by funext y; simp [stX]
theorem stX_skip {p : Nat → Nat → Bool} {nn d x yq : Nat} {F : Nat → Int32} (h : ¬ F x = nI d) : stX p nn d x F yq = F := by funext y; simp [stX, h]
theorem stX_x {p : Nat → Nat → Bool} {nn d x yq : Nat} {F : Nat → Int32} (hd : d ≤ 64) : stX p nn d x F yq x = F x := by
  by_cases h : F x = nI d
  · have : ¬ F x = -99999999 := fun z => none_ne hd (z.symm.trans h)
    simp only [stX]
    rw [if_neg (fun z => this z.2.2.1)]
  · rw [stX_skip h]
theorem stX_y {p : Nat → Nat → Bool} {nn d x yq : Nat} {F : Nat → Int32} : stX p nn d x F yq yq = F yq := by simp [stX]
theorem stX_t {p : Nat → Nat → Bool} {nn d x yq : Nat} {F : Nat → Int32} (h1 : F x = nI d) (h2 : F yq = -99999999) (h3 : p x yq = true) : va_up (stX p nn d x F yq) yq (nI (d + 1)) = stX p nn d x F (yq + 1) := by
  funext y
  by_cases h : y = yq
  · subst h; rw [va_up_self]; simp [stX, h1, h2, h3]
  · rw [va_up_ne _ _ h]
    simp only [stX]
    by_cases h4 : y < yq
    · simp [h4, Nat.lt_succ_of_lt h4]
    · have : ¬ y < yq + 1 := by omega
      simp [h4, this]
theorem stX_f {p : Nat → Nat → Bool} {nn d x yq : Nat} {F : Nat → Int32} (h1 : ¬ (F yq = -99999999 ∧ p x yq = true)) : va_up (stX p nn d x F yq) yq (F yq) = stX p nn d x F (yq + 1) := by
  funext y
  by_cases h : y = yq
  · subst h; rw [va_up_self]
    simp only [stX]
    rw [if_neg (fun z => h1 ⟨z.2.2.1, z.2.2.2⟩)]
  · rw [va_up_ne _ _ h]
    simp only [stX]
    by_cases h4 : y < yq
    · simp [h4, Nat.lt_succ_of_lt h4]
    · have : ¬ y < yq + 1 := by omega
      simp [h4, this]
set_option maxHeartbeats 4000000 in
theorem c_X3_init (l : Launch) (D : va_G) {K N : Nat → Nat} {R : Nat → Nat → Nat} {I : Nat → Nat → Int32} {J : Nat → Nat → Int64} {sz : Nat} (hm : K sz = 4) (hI : I sz = fun _ => 0) (h0 : 0 < sz) : XM l D yX3_init cX3_init 1 none 1 13 40948 [.ref sz] K N R I J sz (fun v K' N' R' I' J' sz' => v = none ∧ MW sz K' N' R' ∧ I' sz = (fun _ => 0) ∧ sz' = sz + 13) := by
  refine XM.of (own := RX3) (nm := "<init>") (by decide +kernel) rfl rfl (by simp [xla, Value.category]) [.ref sz] rfl (by rintro v K N R I J sz ⟨h, -⟩; exact h) ?_
  refine x_aload_n dX3_init_0 rfl ?_
  refine x_objInit dX3_init_1 ol_X3_1 w_objinst w_objcode (by omega) (by decide) (by decide) ?_
  refine x_aload_n dX3_init_4 rfl ?_
  refine x_sipush (v := (nI 3840)) dX3_init_5 (by decide +kernel) ?_
  refine x_newl 3840 dX3_init_8 ac_long (by decide) (by decide) ?_
  try simp only [Nat.add_assoc, Nat.reduceAdd]
  refine x_putr dX3_init_10 fl_X3_7 (by simp [va_up, hm]) (Or.inr ⟨rfl, rfl⟩) (Or.inr ⟨_, rfl⟩) ?_
  refine x_aload_n dX3_init_13 rfl ?_
  refine x_sipush (v := (nI 7680)) dX3_init_14 (by decide +kernel) ?_
  refine x_newl 7680 dX3_init_17 ac_long (by decide) (by decide) ?_
  try simp only [Nat.add_assoc, Nat.reduceAdd]
  refine x_putr dX3_init_19 fl_X3_13 (by simp [va_up, hm]) (Or.inr ⟨rfl, rfl⟩) (Or.inr ⟨_, rfl⟩) ?_
  refine x_aload_n dX3_init_22 rfl ?_
  refine x_sipush (v := (nI 3840)) dX3_init_23 (by decide +kernel) ?_
  refine x_newi 3840 dX3_init_26 ac_int (by decide) (by decide) ?_
  try simp only [Nat.add_assoc, Nat.reduceAdd]
  refine x_putr dX3_init_28 fl_X3_16 (by simp [va_up, hm]) (Or.inr ⟨rfl, rfl⟩) (Or.inr ⟨_, rfl⟩) ?_
  refine x_aload_n dX3_init_31 rfl ?_
  refine x_bipush (v := (nI 60)) dX3_init_32 (by decide +kernel) ?_
  refine x_newi 60 dX3_init_34 ac_int (by decide) (by decide) ?_
  try simp only [Nat.add_assoc, Nat.reduceAdd]
  refine x_putr dX3_init_36 fl_X3_20 (by simp [va_up, hm]) (Or.inr ⟨rfl, rfl⟩) (Or.inr ⟨_, rfl⟩) ?_
  refine x_aload_n dX3_init_39 rfl ?_
  refine x_bipush (v := (nI 60)) dX3_init_40 (by decide +kernel) ?_
  refine x_newi 60 dX3_init_42 ac_int (by decide) (by decide) ?_
  try simp only [Nat.add_assoc, Nat.reduceAdd]
  refine x_putr dX3_init_44 fl_X3_23 (by simp [va_up, hm]) (Or.inr ⟨rfl, rfl⟩) (Or.inr ⟨_, rfl⟩) ?_
  refine x_aload_n dX3_init_47 rfl ?_
  refine x_bipush (v := (nI 60)) dX3_init_48 (by decide +kernel) ?_
  refine x_newz 60 dX3_init_50 ac_boolean (by decide) (by decide) ?_
  try simp only [Nat.add_assoc, Nat.reduceAdd]
  refine x_putr dX3_init_52 fl_X3_26 (by simp [va_up, hm]) (Or.inr ⟨rfl, rfl⟩) (Or.inr ⟨_, rfl⟩) ?_
  refine x_aload_n dX3_init_55 rfl ?_
  refine x_sipush (v := (nI 4224)) dX3_init_56 (by decide +kernel) ?_
  refine x_newi 4224 dX3_init_59 ac_int (by decide) (by decide) ?_
  try simp only [Nat.add_assoc, Nat.reduceAdd]
  refine x_putr dX3_init_61 fl_X3_30 (by simp [va_up, hm]) (Or.inr ⟨rfl, rfl⟩) (Or.inr ⟨_, rfl⟩) ?_
  refine x_aload_n dX3_init_64 rfl ?_
  refine x_sipush (v := (nI 4224)) dX3_init_65 (by decide +kernel) ?_
  refine x_newi 4224 dX3_init_68 ac_int (by decide) (by decide) ?_
  try simp only [Nat.add_assoc, Nat.reduceAdd]
  refine x_putr dX3_init_70 fl_X3_33 (by simp [va_up, hm]) (Or.inr ⟨rfl, rfl⟩) (Or.inr ⟨_, rfl⟩) ?_
  refine x_aload_n dX3_init_73 rfl ?_
  refine x_sipush (v := (nI 4224)) dX3_init_74 (by decide +kernel) ?_
  refine x_newl 4224 dX3_init_77 ac_long (by decide) (by decide) ?_
  try simp only [Nat.add_assoc, Nat.reduceAdd]
  refine x_putr dX3_init_79 fl_X3_36 (by simp [va_up, hm]) (Or.inr ⟨rfl, rfl⟩) (Or.inr ⟨_, rfl⟩) ?_
  refine x_aload_n dX3_init_82 rfl ?_
  refine x_sipush (v := (nI 4224)) dX3_init_83 (by decide +kernel) ?_
  refine x_newl 4224 dX3_init_86 ac_long (by decide) (by decide) ?_
  try simp only [Nat.add_assoc, Nat.reduceAdd]
  refine x_putr dX3_init_88 fl_X3_39 (by simp [va_up, hm]) (Or.inr ⟨rfl, rfl⟩) (Or.inr ⟨_, rfl⟩) ?_
  refine x_aload_n dX3_init_91 rfl ?_
  refine x_sipush (v := (nI 4224)) dX3_init_92 (by decide +kernel) ?_
  refine x_newi 4224 dX3_init_95 ac_int (by decide) (by decide) ?_
  try simp only [Nat.add_assoc, Nat.reduceAdd]
  refine x_putr dX3_init_97 fl_X3_42 (by simp [va_up, hm]) (Or.inr ⟨rfl, rfl⟩) (Or.inr ⟨_, rfl⟩) ?_
  refine x_aload_n dX3_init_100 rfl ?_
  refine x_sipush (v := (nI 4224)) dX3_init_101 (by decide +kernel) ?_
  refine x_newi 4224 dX3_init_104 ac_int (by decide) (by decide) ?_
  try simp only [Nat.add_assoc, Nat.reduceAdd]
  refine x_putr dX3_init_106 fl_X3_45 (by simp [va_up, hm]) (Or.inr ⟨rfl, rfl⟩) (Or.inr ⟨_, rfl⟩) ?_
  refine x_aload_n dX3_init_109 rfl ?_
  refine x_bipush (v := (nI 64)) dX3_init_110 (by decide +kernel) ?_
  refine x_newi 64 dX3_init_112 ac_int (by decide) (by decide) ?_
  try simp only [Nat.add_assoc, Nat.reduceAdd]
  refine x_putr dX3_init_114 fl_X3_48 (by simp [va_up, hm]) (Or.inr ⟨rfl, rfl⟩) (Or.inr ⟨_, rfl⟩) ?_
  exact x_zn dX3_init_117 ⟨rfl, ⟨by simp [va_up, hm], ⟨by simp [va_up], by simp [va_up], by simp [va_up]⟩, ⟨by simp [va_up], by simp [va_up], by simp [va_up]⟩, ⟨by simp [va_up], by simp [va_up], by simp [va_up]⟩, ⟨by simp [va_up], by simp [va_up], by simp [va_up]⟩, ⟨by simp [va_up], by simp [va_up], by simp [va_up]⟩, ⟨by simp [va_up], by simp [va_up], by simp [va_up]⟩, ⟨by simp [va_up], by simp [va_up], by simp [va_up]⟩, ⟨by simp [va_up], by simp [va_up], by simp [va_up]⟩, ⟨by simp [va_up], by simp [va_up], by simp [va_up]⟩, ⟨by simp [va_up], by simp [va_up], by simp [va_up]⟩, ⟨by simp [va_up], by simp [va_up], by simp [va_up]⟩, ⟨by simp [va_up], by simp [va_up], by simp [va_up]⟩, ⟨by simp [va_up], by simp [va_up], by simp [va_up]⟩⟩, by simp [va_up, hI], rfl⟩
set_option maxHeartbeats 4000000 in
theorem c_X3_reach (l : Launch) (D : va_G) {K N : Nat → Nat} {R : Nat → Nat → Nat} {I : Nat → Nat → Int32} {J : Nat → Nat → Int64} {sz : Nat} {m : Nat} (mw : MW m K N R) {nv nn : Nat} (h4 : I m 4 = nI nv) (hnv : nv ≤ 60) (h0 : I m 0 = nI nn) (hnn : nn ≤ 64) (qv qa qb : Int32) : XM l D yX3_reach cX3_reach 7 (some .int) 2 0 0 [.ref m, .int qv, .int qa, .int qb] K N R I J sz (Zx (some (.int (if pV I m nv qv ∧ pN nn qa ∧ pN nn qb then (rD (fun f t => bt (J (m + 1) (64 * qv.toNatClampNeg + f)) t) nn (far0 (I (m + 13)) qa.toNatClampNeg) nn) qb.toNatClampNeg else -1))) K N R (if pV I m nv qv ∧ pN nn qa ∧ pN nn qb then va_up I (m + 13) (rD (fun f t => bt (J (m + 1) (64 * qv.toNatClampNeg + f)) t) nn (far0 (I (m + 13)) qa.toNatClampNeg) nn) else I) J sz) := by
  refine XM.of (own := RX3) (nm := "reach") (by decide +kernel) rfl rfl (by simp [xla, Value.category]) [.ref m, .int qv, .int qa, .int qb, .null, .null, .null] rfl (Zx.rt ⟨_, rfl⟩) ?_
  refine x_aload_n dX3_reach_0 rfl ?_
  refine x_iload_n dX3_reach_1 rfl ?_
  refine x_eV (c_X3_isVersion l D mw h4 hnv _) dX3_reach_2 lk_X3_106 im_X3_isVersion se_X3_isVersion cd_X3_isVersion (by decide) mw.k vcX3 rfl (by decide) rfl (by first | decide | simp [Value.category]) ?_
  refine x_if_eq 24 dX3_reach_5 (by decide) (fun c5 => ?_) (fun c5 => ?_)
  · rw [bI_e0] at c5
    refine x_iconst (v := (-1)) dX3_reach_24 (by decide +kernel) ?_
    exact x_zi dX3_reach_25 ⟨by rw [if_neg (by rintro ⟨z1, z2, z3⟩; first | exact c5 z1 | exact c13 z2 | exact c21 z3)], rfl, rfl, rfl, by rw [if_neg (by rintro ⟨z1, z2, z3⟩; first | exact c5 z1 | exact c13 z2 | exact c21 z3)], rfl, rfl⟩
  · rw [bI_n0] at c5
    obtain ⟨vj, hvj, rfl⟩ := pN_ex c5.1
    refine x_aload_n dX3_reach_8 rfl ?_
    refine x_iload_n dX3_reach_9 rfl ?_
    refine x_eV (c_X3_isNode l D mw h0 hnn _) dX3_reach_10 lk_X3_110 im_X3_isNode se_X3_isNode cd_X3_isNode (by decide) mw.k vcX3 rfl (by decide) rfl (by first | decide | simp [Value.category]) ?_
    refine x_if_eq 24 dX3_reach_13 (by decide) (fun c13 => ?_) (fun c13 => ?_)
    · rw [bI_e0] at c13
      refine x_iconst (v := (-1)) dX3_reach_24 (by decide +kernel) ?_
      exact x_zi dX3_reach_25 ⟨by rw [if_neg (by rintro ⟨z1, z2, z3⟩; first | exact c5 z1 | exact c13 z2 | exact c21 z3)], rfl, rfl, rfl, by rw [if_neg (by rintro ⟨z1, z2, z3⟩; first | exact c5 z1 | exact c13 z2 | exact c21 z3)], rfl, rfl⟩
    · rw [bI_n0] at c13
      obtain ⟨aj, haj, rfl⟩ := pN_ex c13
      refine x_aload_n dX3_reach_16 rfl ?_
      refine x_iload_n dX3_reach_17 rfl ?_
      refine x_eV (c_X3_isNode l D mw h0 hnn _) dX3_reach_18 lk_X3_110 im_X3_isNode se_X3_isNode cd_X3_isNode (by decide) mw.k vcX3 rfl (by decide) rfl (by first | decide | simp [Value.category]) ?_
      refine x_if_ne 26 dX3_reach_21 (by decide) (fun c21 => ?_) (fun c21 => ?_)
      · rw [bI_n0] at c21
        obtain ⟨bj, hbj, rfl⟩ := pN_ex c21
        have hG : pV I m nv (nI vj) ∧ pN nn (nI aj) ∧ pN nn (nI bj) := ⟨c5, c13, c21⟩
        obtain ⟨pp, hpp⟩ : ∃ pp : Nat → Nat → Bool, pp = (fun f t => bt (J (m + 1) (64 * vj + f)) t) := ⟨_, rfl⟩
        have hpe : ∀ f t, bt (J (m + 1) (64 * vj + f)) t = pp f t := fun f t => by rw [hpp]
        have dl : ∀ (T d : Nat), T + d = nn → XW l D (fun _ => True) RX3 "reach" cX3_reach 7 2 0 0 K sz (Zx (some (.int (if pV I m nv (nI vj) ∧ pN nn (nI aj) ∧ pN nn (nI bj) then (rD (fun f t => bt (J (m + 1) (64 * (nI vj).toNatClampNeg + f)) t) nn (far0 (I (m + 13)) (nI aj).toNatClampNeg) nn) (nI bj).toNatClampNeg else -1))) K N R (if pV I m nv (nI vj) ∧ pN nn (nI aj) ∧ pN nn (nI bj) then va_up I (m + 13) (rD (fun f t => bt (J (m + 1) (64 * (nI vj).toNatClampNeg + f)) t) nn (far0 (I (m + 13)) (nI aj).toNatClampNeg) nn) else I) J sz) 61 [.ref m, .int (nI vj), .int (nI aj), .int (nI bj), .int (nI d), .null, .null] [] K N R (va_up I (m + 13) (rD pp nn (far0 (I (m + 13)) aj) d)) (J) sz 0 0 := by
          intro T
          induction T with
          | zero =>
            intro d hd
            obtain rfl : d = nn := by omega
            refine x_iload dX3_reach_61 rfl ?_
            refine x_aload_n dX3_reach_63 rfl ?_
            refine x_geti dX3_reach_64 fl_X3_59 mw.k rfl ?_
            refine x_icmp_ge 171 dX3_reach_67 (by decide) (fun c67 => ?_) (fun c67 => ?_)
            · refine x_aload_n dX3_reach_171 rfl ?_
              refine x_getq dX3_reach_172 fl_X3_48 mw.k mw.r21 rfl ?_
              refine x_iload_n dX3_reach_175 rfl ?_
              refine x_iald (bj) dX3_reach_176 mw.k21 mw.n21 rfl (by omega) (by decide) ?_
              exact x_zi dX3_reach_177 ⟨by rw [if_pos hG, clz (show vj < 64 by omega), clz (show aj < 64 by omega), clz (show bj < 64 by omega), ← hpp, va_up_self], rfl, rfl, rfl, by rw [if_pos hG, clz (show vj < 64 by omega), clz (show aj < 64 by omega), ← hpp], rfl, rfl⟩
            · exact absurd (by rw [va_up_ne _ _ (show m ≠ m + 13 by omega), h0]; exact nI_le (by omega) (by omega)) c67
          | succ T ihd =>
            intro d hd
            have xl : ∀ (T x : Nat), T + x = nn → XW l D (fun _ => True) RX3 "reach" cX3_reach 7 2 0 0 K sz (Zx (some (.int (if pV I m nv (nI vj) ∧ pN nn (nI aj) ∧ pN nn (nI bj) then (rD (fun f t => bt (J (m + 1) (64 * (nI vj).toNatClampNeg + f)) t) nn (far0 (I (m + 13)) (nI aj).toNatClampNeg) nn) (nI bj).toNatClampNeg else -1))) K N R (if pV I m nv (nI vj) ∧ pN nn (nI aj) ∧ pN nn (nI bj) then va_up I (m + 13) (rD (fun f t => bt (J (m + 1) (64 * (nI vj).toNatClampNeg + f)) t) nn (far0 (I (m + 13)) (nI aj).toNatClampNeg) nn) else I) J sz) 73 [.ref m, .int (nI vj), .int (nI aj), .int (nI bj), .int (nI d), .int (nI x), .null] [] K N R (va_up I (m + 13) (rX pp nn d (rD pp nn (far0 (I (m + 13)) aj) d) x)) (J) sz 0 0 := by
              intro T
              induction T with
              | zero =>
                intro x hx
                obtain rfl : x = nn := by omega
                refine x_iload dX3_reach_73 rfl ?_
                refine x_aload_n dX3_reach_75 rfl ?_
                refine x_geti dX3_reach_76 fl_X3_59 mw.k rfl ?_
                refine x_icmp_ge 165 dX3_reach_79 (by decide) (fun c79 => ?_) (fun c79 => ?_)
                · refine x_iinc dX3_reach_165 rfl rfl (by decide) rfl ?_
                  refine x_goto 61 dX3_reach_168 (by decide) ?_
                  refine x_drop 5 ?_
                  exact x_eql (by show [_, _, _, _, Value.int _, _, _] = _; simp [nI_1]) (ihd (d + 1) (by omega))
                · exact absurd (by rw [va_up_ne _ _ (show m ≠ m + 13 by omega), h0]; exact nI_le (by omega) (by omega)) c79
              | succ T ihx =>
                intro x hx
                have yl : ∀ (T y : Nat), T + y = nn → XW l D (fun _ => True) RX3 "reach" cX3_reach 7 2 0 0 K sz (Zx (some (.int (if pV I m nv (nI vj) ∧ pN nn (nI aj) ∧ pN nn (nI bj) then (rD (fun f t => bt (J (m + 1) (64 * (nI vj).toNatClampNeg + f)) t) nn (far0 (I (m + 13)) (nI aj).toNatClampNeg) nn) (nI bj).toNatClampNeg else -1))) K N R (if pV I m nv (nI vj) ∧ pN nn (nI aj) ∧ pN nn (nI bj) then va_up I (m + 13) (rD (fun f t => bt (J (m + 1) (64 * (nI vj).toNatClampNeg + f)) t) nn (far0 (I (m + 13)) (nI aj).toNatClampNeg) nn) else I) J sz) 85 [.ref m, .int (nI vj), .int (nI aj), .int (nI bj), .int (nI d), .int (nI x), .int (nI y)] [] K N R (va_up I (m + 13) (stX pp nn d x (rX pp nn d (rD pp nn (far0 (I (m + 13)) aj) d) x) y)) (J) sz 0 0 := by
                  intro T
                  induction T with
                  | zero =>
                    intro y hy
                    obtain rfl : y = nn := by omega
                    refine x_iload dX3_reach_85 rfl ?_
                    refine x_aload_n dX3_reach_87 rfl ?_
                    refine x_geti dX3_reach_88 fl_X3_59 mw.k rfl ?_
                    refine x_icmp_ge 159 dX3_reach_91 (by decide) (fun c91 => ?_) (fun c91 => ?_)
                    · refine x_iinc dX3_reach_159 rfl rfl (by decide) rfl ?_
                      refine x_goto 73 dX3_reach_162 (by decide) ?_
                      refine x_drop 6 ?_
                      exact x_eql (by show [_, _, _, _, _, Value.int _, _] = _; simp [nI_1]) (ihx (x + 1) (by omega))
                    · exact absurd (by rw [va_up_ne _ _ (show m ≠ m + 13 by omega), h0]; exact nI_le (by omega) (by omega)) c91
                  | succ T ihy =>
                    intro y hy
                    refine x_iload dX3_reach_85 rfl ?_
                    refine x_aload_n dX3_reach_87 rfl ?_
                    refine x_geti dX3_reach_88 fl_X3_59 mw.k rfl ?_
                    refine x_icmp_ge 159 dX3_reach_91 (by decide) (fun c91 => ?_) (fun c91 => ?_)
                    · rw [va_up_ne _ _ (show m ≠ m + 13 by omega), h0] at c91; exact absurd c91 (nI_ge (by omega) (by omega))
                    · refine x_aload_n dX3_reach_94 rfl ?_
                      refine x_getq dX3_reach_95 fl_X3_48 mw.k mw.r21 rfl ?_
                      refine x_iload dX3_reach_98 rfl ?_
                      refine x_iald (x) dX3_reach_100 mw.k21 mw.n21 rfl (by omega) (by decide) ?_
                      refine x_iload dX3_reach_101 rfl ?_
                      refine x_icmp_ne 159 dX3_reach_103 (by decide) (fun c103 => ?_) (fun c103 => ?_)
                      · rw [va_up_self, stX_x (by omega)] at c103
                        refine x_iinc dX3_reach_159 rfl rfl (by decide) rfl ?_
                        refine x_goto 73 dX3_reach_162 (by decide) ?_
                        rw [stX_skip c103]
                        refine x_drop 6 ?_
                        exact x_eql (by show [_, _, _, _, _, Value.int _, _] = _; simp [nI_1]) (x_eqh (by rw [show rX pp nn d (rD pp nn (far0 (I (m + 13)) aj) d) (x + 1) = stX pp nn d x (rX pp nn d (rD pp nn (far0 (I (m + 13)) aj) d) x) nn from rfl, stX_skip c103]) rfl (ihx (x + 1) (by omega)))
                      · rw [va_up_self, stX_x (by omega)] at c103
                        refine x_aload_n dX3_reach_106 rfl ?_
                        refine x_getq dX3_reach_107 fl_X3_48 mw.k mw.r21 rfl ?_
                        refine x_iload dX3_reach_110 rfl ?_
                        refine x_aload_n dX3_reach_112 rfl ?_
                        refine x_getq dX3_reach_113 fl_X3_48 mw.k mw.r21 rfl ?_
                        refine x_iload dX3_reach_116 rfl ?_
                        refine x_iald (y) dX3_reach_118 mw.k21 mw.n21 rfl (by omega) (by decide) ?_
                        rw [va_up_self, stX_y]
                        refine x_ldc dX3_reach_119 ki_X3_68 ?_
                        refine x_icmp_ne 145 dX3_reach_121 (by decide) (fun c121 => ?_) (fun c121 => ?_)
                        · refine x_aload_n dX3_reach_145 rfl ?_
                          refine x_getq dX3_reach_146 fl_X3_48 mw.k mw.r21 rfl ?_
                          refine x_iload dX3_reach_149 rfl ?_
                          refine x_iald (y) dX3_reach_151 mw.k21 mw.n21 rfl (by omega) (by decide) ?_
                          rw [va_up_self, stX_y]
                          refine x_iast (y) dX3_reach_152 mw.k21 mw.n21 rfl (by omega) (by decide) ?_
                          rw [va_up_up, va_up_self]
                          first
                            | rw [nI_1, stX_t c103 c121 c135]
                            | rw [stX_f (fun z => c135 z.2)]
                            | rw [stX_f (fun z => c121 z.1)]
                          refine x_iinc dX3_reach_153 rfl rfl (by decide) rfl ?_
                          refine x_goto 85 dX3_reach_156 (by decide) ?_
                          exact x_eql (by show [_, _, _, _, _, _, Value.int _] = _; simp [nI_1]) (ihy (y + 1) (by omega))
                        · refine x_aload_n dX3_reach_124 rfl ?_
                          refine x_iload_n dX3_reach_125 rfl ?_
                          refine x_iload dX3_reach_126 rfl ?_
                          refine x_iload dX3_reach_128 rfl ?_
                          refine x_top (tN_a (show y < 64 by omega)).symm ?_
                          refine x_eV (c_X3_item l D mw (v := vj) (n := x) (c := y) (by omega) (by omega) (by omega)) dX3_reach_130 lk_X3_91 im_X3_item se_X3_item cd_X3_item (by decide) mw.k vcX3 rfl (by decide) rfl (by first | decide | simp [Value.category]) ?_
                          rw [itm_a (show y < 64 by omega)]
                          refine x_lconst (v := 1) dX3_reach_133 (by decide +kernel) ?_
                          refine x_lcmp dX3_reach_134 ?_
                          refine x_if_ne 145 dX3_reach_135 (by decide) (fun c135 => ?_) (fun c135 => ?_)
                          · rw [cmp_eq, it_1, hpe] at c135
                            refine x_aload_n dX3_reach_145 rfl ?_
                            refine x_getq dX3_reach_146 fl_X3_48 mw.k mw.r21 rfl ?_
                            refine x_iload dX3_reach_149 rfl ?_
                            refine x_iald (y) dX3_reach_151 mw.k21 mw.n21 rfl (by omega) (by decide) ?_
                            rw [va_up_self, stX_y]
                            refine x_iast (y) dX3_reach_152 mw.k21 mw.n21 rfl (by omega) (by decide) ?_
                            rw [va_up_up, va_up_self]
                            first
                              | rw [nI_1, stX_t c103 c121 c135]
                              | rw [stX_f (fun z => c135 z.2)]
                              | rw [stX_f (fun z => c121 z.1)]
                            refine x_iinc dX3_reach_153 rfl rfl (by decide) rfl ?_
                            refine x_goto 85 dX3_reach_156 (by decide) ?_
                            exact x_eql (by show [_, _, _, _, _, _, Value.int _] = _; simp [nI_1]) (ihy (y + 1) (by omega))
                          · rw [cmp_eq, it_1, hpe] at c135
                            refine x_iload dX3_reach_138 rfl ?_
                            refine x_iconst (v := (1)) dX3_reach_140 (by decide +kernel) ?_
                            refine x_iadd dX3_reach_141 ?_
                            refine x_goto 152 dX3_reach_142 (by decide) ?_
                            refine x_iast (y) dX3_reach_152 mw.k21 mw.n21 rfl (by omega) (by decide) ?_
                            rw [va_up_up, va_up_self]
                            first
                              | rw [nI_1, stX_t c103 c121 c135]
                              | rw [stX_f (fun z => c135 z.2)]
                              | rw [stX_f (fun z => c121 z.1)]
                            refine x_iinc dX3_reach_153 rfl rfl (by decide) rfl ?_
                            refine x_goto 85 dX3_reach_156 (by decide) ?_
                            exact x_eql (by show [_, _, _, _, _, _, Value.int _] = _; simp [nI_1]) (ihy (y + 1) (by omega))
                refine x_iload dX3_reach_73 rfl ?_
                refine x_aload_n dX3_reach_75 rfl ?_
                refine x_geti dX3_reach_76 fl_X3_59 mw.k rfl ?_
                refine x_icmp_ge 165 dX3_reach_79 (by decide) (fun c79 => ?_) (fun c79 => ?_)
                · rw [va_up_ne _ _ (show m ≠ m + 13 by omega), h0] at c79; exact absurd c79 (nI_ge (by omega) (by omega))
                · refine x_iconst (v := (0)) dX3_reach_82 (by decide +kernel) ?_
                  refine x_istore dX3_reach_83 (by decide) rfl ?_
                  exact x_eql rfl (x_eqh (by rw [stX_0]) rfl (yl nn 0 rfl))
            refine x_iload dX3_reach_61 rfl ?_
            refine x_aload_n dX3_reach_63 rfl ?_
            refine x_geti dX3_reach_64 fl_X3_59 mw.k rfl ?_
            refine x_icmp_ge 171 dX3_reach_67 (by decide) (fun c67 => ?_) (fun c67 => ?_)
            · rw [va_up_ne _ _ (show m ≠ m + 13 by omega), h0] at c67; exact absurd c67 (nI_ge (by omega) (by omega))
            · refine x_iconst (v := (0)) dX3_reach_70 (by decide +kernel) ?_
              refine x_istore dX3_reach_71 (by decide) rfl ?_
              exact x_eql rfl (xl nn 0 rfl)
        have fill : ∀ (t k : Nat), t + k = 64 → XW l D (fun _ => True) RX3 "reach" cX3_reach 7 2 0 0 K sz (Zx (some (.int (if pV I m nv (nI vj) ∧ pN nn (nI aj) ∧ pN nn (nI bj) then (rD (fun f t => bt (J (m + 1) (64 * (nI vj).toNatClampNeg + f)) t) nn (far0 (I (m + 13)) (nI aj).toNatClampNeg) nn) (nI bj).toNatClampNeg else -1))) K N R (if pV I m nv (nI vj) ∧ pN nn (nI aj) ∧ pN nn (nI bj) then va_up I (m + 13) (rD (fun f t => bt (J (m + 1) (64 * (nI vj).toNatClampNeg + f)) t) nn (far0 (I (m + 13)) (nI aj).toNatClampNeg) nn) else I) J sz) 29 [.ref m, .int (nI vj), .int (nI aj), .int (nI bj), .int (nI k), .null, .null] [] K N R (va_up I (m + 13) (fun y => if y < k then -99999999 else I (m + 13) y)) (J) sz 0 0 := by
          intro t
          induction t with
          | zero =>
            intro k hk
            refine x_iload dX3_reach_29 rfl ?_
            refine x_bipush (v := (nI 64)) dX3_reach_31 (by decide +kernel) ?_
            refine x_icmp_ge 51 dX3_reach_33 (by decide) (fun c33 => ?_) (fun c33 => ?_)
            · obtain rfl : k = 64 := by omega
              refine x_aload_n dX3_reach_51 rfl ?_
              refine x_getq dX3_reach_52 fl_X3_48 mw.k mw.r21 rfl ?_
              refine x_iload_n dX3_reach_55 rfl ?_
              refine x_iconst (v := (0)) dX3_reach_56 (by decide +kernel) ?_
              refine x_iast (aj) dX3_reach_57 mw.k21 mw.n21 rfl (by omega) (by decide) ?_
              rw [va_up_up, va_up_self]
              refine x_iconst (v := (0)) dX3_reach_58 (by decide +kernel) ?_
              refine x_istore dX3_reach_59 (by decide) rfl ?_
              exact x_eql rfl (dl nn 0 rfl)
            · exact absurd (nI_le (by omega) (by omega)) c33
          | succ t ih =>
            intro k hk
            refine x_iload dX3_reach_29 rfl ?_
            refine x_bipush (v := (nI 64)) dX3_reach_31 (by decide +kernel) ?_
            refine x_icmp_ge 51 dX3_reach_33 (by decide) (fun c33 => ?_) (fun c33 => ?_)
            · exact absurd c33 (nI_ge (by omega) (by omega))
            · refine x_aload_n dX3_reach_36 rfl ?_
              refine x_getq dX3_reach_37 fl_X3_48 mw.k mw.r21 rfl ?_
              refine x_iload dX3_reach_40 rfl ?_
              refine x_ldc dX3_reach_42 ki_X3_68 ?_
              refine x_iast (k) dX3_reach_44 mw.k21 mw.n21 rfl (by omega) (by decide) ?_
              refine x_eqh (I' := va_up I (m + 13) (fun y => if y < k + 1 then -99999999 else I (m + 13) y)) ?_ rfl ?_
              · rw [va_up_up, va_up_self]
                congr 1
                funext y
                by_cases h : y = k
                · subst h; rw [va_up_self, if_pos (by omega)]
                · rw [va_up_ne _ _ h]
                  by_cases h2 : y < k
                  · rw [if_pos h2, if_pos (by omega)]
                  · rw [if_neg h2, if_neg (by omega)]
              refine x_iinc dX3_reach_45 rfl rfl (by decide) rfl ?_
              refine x_goto 29 dX3_reach_48 (by decide) ?_
              exact x_eql (by show [_, _, _, _, Value.int _, _, _] = _; simp [nI_1]) (ih (k + 1) (by omega))
        refine x_iconst (v := (0)) dX3_reach_26 (by decide +kernel) ?_
        refine x_istore dX3_reach_27 (by decide) rfl ?_
        exact x_eqh (by rw [show (fun y => if y < 0 then (-99999999 : Int32) else I (m + 13) y) = I (m + 13) from by funext y; simp, va_up_id]) rfl (x_eql rfl (fill 64 0 rfl))
      · rw [bI_e0] at c21
        refine x_iconst (v := (-1)) dX3_reach_24 (by decide +kernel) ?_
        exact x_zi dX3_reach_25 ⟨by rw [if_neg (by rintro ⟨z1, z2, z3⟩; first | exact c5 z1 | exact c13 z2 | exact c21 z3)], rfl, rfl, rfl, by rw [if_neg (by rintro ⟨z1, z2, z3⟩; first | exact c5 z1 | exact c13 z2 | exact c21 z3)], rfl, rfl⟩
