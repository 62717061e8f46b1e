/-! The reference: time, shared, letGo, ancestor -/
def tmA (G S : Nat → Int32) (t : Int32) : Nat → Int32
  | 0 => -99999999
  | k + 1 => if G k = 0 ∧ ¬ t < S k then nI k else tmA G S t k
def cntP (p : Nat → Bool) : Nat → Nat
  | 0 => 0
  | k + 1 => cntP p k + (if p k then 1 else 0)
def anyP (p : Nat → Bool) : Nat → Bool
  | 0 => false
  | k + 1 => anyP p k || p k
theorem cntP_le (p : Nat → Bool) (n : Nat) : cntP p n ≤ n := by
  induction n with
  | zero => exact Nat.le_refl 0
  | succ n ih => simp only [cntP]; split <;> omega
theorem anyP_t {p : Nat → Bool} {n i : Nat} (hi : i < n) (h : p i = true) : anyP p n = true := by
  induction n with
  | zero => omega
  | succ n ih =>
    simp only [anyP, Bool.or_eq_true]
    by_cases e : i = n
    · subst e; exact Or.inr h
    · exact Or.inl (ih (by omega))
theorem anyP_f {p : Nat → Bool} {n : Nat} (h : ∀ i, i < n → p i = false) : anyP p n = false := by
  induction n with
  | zero => rfl
  | succ n ih => simp only [anyP, ih (fun i hi => h i (by omega)), h n (by omega), Bool.or_self]
theorem anyP_iff {p : Nat → Bool} {n : Nat} : anyP p n = true ↔ ∃ i, i < n ∧ p i = true := by
  constructor
  · intro h
    induction n with
    | zero => simp [anyP] at h
    | succ n ih =>
      simp only [anyP, Bool.or_eq_true] at h
      rcases h with h | h
      · obtain ⟨i, h1, h2⟩ := ih h; exact ⟨i, by omega, h2⟩
      · exact ⟨n, by omega, h⟩
  · rintro ⟨i, h1, h2⟩; exact anyP_t h1 h2
theorem dec1 (x : Int32) : x + Int32.ofInt (-1) = x - 1 := by rw [show Int32.ofInt (-1) = -1 from by decide, Int32.sub_eq_add_neg]
theorem nI_m1z : nI 0 - 1 < 0 := by decide +kernel
set_option maxHeartbeats 4000000 in
theorem c_X3_time (l : Launch) (D : va_G) {K N : Nat → Nat} {R : Nat → Nat → Nat} {I : Nat → Nat → Int32} {J : Nat → Nat → Int64} {sz : Nat} {m : Nat} (mw : MW m K N R) {nv : Nat} (h4 : I m 4 = nI nv) (hnv : nv ≤ 60) (t : Int32) : XM l D yX3_time cX3_time 3 (some .int) 0 0 0 [.ref m, .int t] K N R I J sz (Zx (some (.int (tmA (I (m + 6)) (I (m + 5)) t nv))) K N R I J sz) := by
  have loop : ∀ k : Nat, k ≤ nv → tmA (I (m + 6)) (I (m + 5)) t nv = tmA (I (m + 6)) (I (m + 5)) t k → XW l D (fun _ => True) RX3 "time" cX3_time 3 0 0 0 K sz (Zx (some (.int (tmA (I (m + 6)) (I (m + 5)) t nv))) K N R I J sz) 7 [.ref m, .int t, .int (nI k - 1)] [] K N R (I) (J) sz 0 0 := by
    intro k
    induction k with
    | zero =>
      intro hk e
      refine x_iload_n dX3_time_7 rfl ?_
      refine x_if_lt 38 dX3_time_8 (by decide) (fun c8 => ?_) (fun c8 => ?_)
      · refine x_ldc dX3_time_38 ki_X3_68 ?_
        exact x_ri dX3_time_40 e.symm
      · exact absurd nI_m1z c8
    | succ k ih =>
      intro hk e
      rw [nI_pred]
      simp only [tmA] at e
      refine x_iload_n dX3_time_7 rfl ?_
      refine x_if_lt 38 dX3_time_8 (by decide) (fun c8 => ?_) (fun c8 => ?_)
      · exact absurd c8 (nI_pos (by omega))
      · refine x_aload_n dX3_time_11 rfl ?_
        refine x_getq dX3_time_12 fl_X3_26 mw.k mw.r11 rfl ?_
        refine x_iload_n dX3_time_15 rfl ?_
        refine x_zald _ dX3_time_16 mw.k11 mw.n11 rfl (by omega) (by decide) ?_
        refine x_if_ne 32 dX3_time_17 (by decide) (fun c17 => ?_) (fun c17 => ?_)
        · refine x_iinc (v := nI k - 1) dX3_time_32 rfl (dec1 _) (by decide) rfl ?_
          refine x_goto 7 dX3_time_35 (by decide) ?_
          first
            | exact ih (by omega) (by rw [e, if_neg (fun z => c17 z.1)])
            | exact ih (by omega) (by rw [e, if_neg (fun z => z.2 c27)])
        · refine x_aload_n dX3_time_20 rfl ?_
          refine x_getq dX3_time_21 fl_X3_23 mw.k mw.r10 rfl ?_
          refine x_iload_n dX3_time_24 rfl ?_
          refine x_iald _ dX3_time_25 mw.k10 mw.n10 rfl (by omega) (by decide) ?_
          refine x_iload_n dX3_time_26 rfl ?_
          refine x_icmp_gt 32 dX3_time_27 (by decide) (fun c27 => ?_) (fun c27 => ?_)
          · refine x_iinc (v := nI k - 1) dX3_time_32 rfl (dec1 _) (by decide) rfl ?_
            refine x_goto 7 dX3_time_35 (by decide) ?_
            first
              | exact ih (by omega) (by rw [e, if_neg (fun z => c17 z.1)])
              | exact ih (by omega) (by rw [e, if_neg (fun z => z.2 c27)])
          · refine x_iload_n dX3_time_30 rfl ?_
            exact x_ri dX3_time_31 (by rw [e, if_pos ⟨c17, c27⟩])
  refine XM.of (own := RX3) (nm := "time") (by decide +kernel) rfl rfl (by simp [xla, Value.category]) [.ref m, .int t, .null] rfl (Zx.rt ⟨_, rfl⟩) ?_
  refine x_aload_n dX3_time_0 rfl ?_
  refine x_geti dX3_time_1 fl_X3_51 mw.k rfl ?_
  refine x_iconst (v := (1)) dX3_time_4 (by decide +kernel) ?_
  refine x_isub dX3_time_5 ?_
  refine x_istore_n dX3_time_6 (by decide) rfl ?_
  rw [h4]
  exact loop nv (Nat.le_refl _) rfl
set_option maxHeartbeats 4000000 in
theorem c_X3_shared (l : Launch) (D : va_G) {K N : Nat → Nat} {R : Nat → Nat → Nat} {I : Nat → Nat → Int32} {J : Nat → Nat → Int64} {sz : Nat} {m : Nat} (mw : MW m K N R) {nv nc : Nat} (h4 : I m 4 = nI nv) (hnv : nv ≤ 60) (h2 : I m 2 = nI nc) (hnc : nc ≤ 64) (v a : Int32) : XM l D yX3_shared cX3_shared 5 (some .int) 2 0 0 [.ref m, .int v, .int a] K N R I J sz (Zx (some (.int (if pV I m nv v ∧ pV I m nv a then nI (cntP (fun k => I (m + 3) (64 * v.toNatClampNeg + k) == I (m + 3) (64 * a.toNatClampNeg + k)) nc) else -1))) K N R I J sz) := by
  refine XM.of (own := RX3) (nm := "shared") (by decide +kernel) rfl rfl (by simp [xla, Value.category]) [.ref m, .int v, .int a, .null, .null] rfl (Zx.rt ⟨_, rfl⟩) ?_
  refine x_aload_n dX3_shared_0 rfl ?_
  refine x_iload_n dX3_shared_1 rfl ?_
  refine x_eV (c_X3_isVersion l D mw h4 hnv _) dX3_shared_2 lk_X3_106 im_X3_isVersion se_X3_isVersion cd_X3_isVersion (by decide) mw.k vcX3 rfl (by decide) rfl (by decide) ?_
  refine x_if_eq 16 dX3_shared_5 (by decide) (fun c5 => ?_) (fun c5 => ?_)
  · rw [bI_e0] at c5
    refine x_iconst (v := (-1)) dX3_shared_16 (by decide +kernel) ?_
    first
      | exact x_ri dX3_shared_17 (by rw [if_neg (fun z => c5 z.1)])
      | exact x_ri dX3_shared_17 (by rw [if_neg (fun z => c13 z.2)])
  · rw [bI_n0] at c5
    obtain ⟨vj, hvj, rfl⟩ := pN_ex c5.1
    refine x_aload_n dX3_shared_8 rfl ?_
    refine x_iload_n dX3_shared_9 rfl ?_
    refine x_eV (c_X3_isVersion l D mw h4 hnv _) dX3_shared_10 lk_X3_106 im_X3_isVersion se_X3_isVersion cd_X3_isVersion (by decide) mw.k vcX3 rfl (by decide) rfl (by decide) ?_
    refine x_if_ne 18 dX3_shared_13 (by decide) (fun c13 => ?_) (fun c13 => ?_)
    · rw [bI_n0] at c13
      obtain ⟨aj, haj, rfl⟩ := pN_ex c13.1
      have hG : pV I m nv (nI vj) ∧ pV I m nv (nI aj) := ⟨c5, c13⟩
      have loop : ∀ (t k : Nat), t + k = nc → XW l D (fun _ => True) RX3 "shared" cX3_shared 5 2 0 0 K sz (Zx (some (.int (if pV I m nv (nI vj) ∧ pV I m nv (nI aj) then nI (cntP (fun k => I (m + 3) (64 * (nI vj).toNatClampNeg + k) == I (m + 3) (64 * (nI aj).toNatClampNeg + k)) nc) else -1))) K N R I J sz) 23 [.ref m, .int (nI vj), .int (nI aj), .int (nI (cntP (fun k => I (m + 3) (64 * vj + k) == I (m + 3) (64 * aj + k)) k)), .int (nI k)] [] K N R (I) (J) sz 0 0 := by
        intro t
        induction t with
        | zero =>
          intro k hk
          refine x_iload dX3_shared_23 rfl ?_
          refine x_aload_n dX3_shared_25 rfl ?_
          refine x_geti dX3_shared_26 fl_X3_65 mw.k rfl ?_
          refine x_icmp_ge 73 dX3_shared_29 (by decide) (fun c29 => ?_) (fun c29 => ?_)
          · obtain rfl : k = nc := by omega
            refine x_iload_n dX3_shared_73 rfl ?_
            exact x_ri dX3_shared_74 (by rw [if_pos hG, clz (show vj < 64 by omega), clz (show aj < 64 by omega)])
          · exact absurd (by rw [h2]; exact nI_le (by omega) (by omega)) c29
        | succ t ih =>
          intro k hk
          refine x_iload dX3_shared_23 rfl ?_
          refine x_aload_n dX3_shared_25 rfl ?_
          refine x_geti dX3_shared_26 fl_X3_65 mw.k rfl ?_
          refine x_icmp_ge 73 dX3_shared_29 (by decide) (fun c29 => ?_) (fun c29 => ?_)
          · rw [h2] at c29; exact absurd c29 (nI_ge (by omega) (by omega))
          · refine x_iload_n dX3_shared_32 rfl ?_
            refine x_aload_n dX3_shared_33 rfl ?_
            refine x_getq dX3_shared_34 fl_X3_16 mw.k mw.r8 rfl ?_
            refine x_bipush (v := (nI 64)) dX3_shared_37 (by decide +kernel) ?_
            refine x_iload_n dX3_shared_39 rfl ?_
            refine x_imul dX3_shared_40 ?_
            refine x_iload dX3_shared_41 rfl ?_
            refine x_iadd dX3_shared_43 ?_
            refine x_iald (64 * vj + k) dX3_shared_44 mw.k8 mw.n8 (by rw [pk_mul, nI_add]) (by omega) (by decide) ?_
            refine x_aload_n dX3_shared_45 rfl ?_
            refine x_getq dX3_shared_46 fl_X3_16 mw.k mw.r8 rfl ?_
            refine x_bipush (v := (nI 64)) dX3_shared_49 (by decide +kernel) ?_
            refine x_iload_n dX3_shared_51 rfl ?_
            refine x_imul dX3_shared_52 ?_
            refine x_iload dX3_shared_53 rfl ?_
            refine x_iadd dX3_shared_55 ?_
            refine x_iald (64 * aj + k) dX3_shared_56 mw.k8 mw.n8 (by rw [pk_mul, nI_add]) (by omega) (by decide) ?_
            refine x_icmp_ne 64 dX3_shared_57 (by decide) (fun c57 => ?_) (fun c57 => ?_)
            · refine x_iconst (v := (0)) dX3_shared_64 (by decide +kernel) ?_
              refine x_iadd dX3_shared_65 ?_
              refine x_istore_n dX3_shared_66 (by decide) rfl ?_
              refine x_iinc dX3_shared_67 rfl rfl (by decide) rfl ?_
              refine x_goto 23 dX3_shared_70 (by decide) ?_
              exact x_eql (by show [_, _, _, Value.int _, Value.int _] = _; simp [cntP, c57, nI_1]) (ih (k + 1) (by omega))
            · refine x_iconst (v := (1)) dX3_shared_60 (by decide +kernel) ?_
              refine x_goto 65 dX3_shared_61 (by decide) ?_
              refine x_iadd dX3_shared_65 ?_
              refine x_istore_n dX3_shared_66 (by decide) rfl ?_
              refine x_iinc dX3_shared_67 rfl rfl (by decide) rfl ?_
              refine x_goto 23 dX3_shared_70 (by decide) ?_
              exact x_eql (by show [_, _, _, Value.int _, Value.int _] = _; simp [cntP, c57, nI_1]) (ih (k + 1) (by omega))
      refine x_iconst (v := (0)) dX3_shared_18 (by decide +kernel) ?_
      refine x_istore_n dX3_shared_19 (by decide) rfl ?_
      refine x_iconst (v := (0)) dX3_shared_20 (by decide +kernel) ?_
      refine x_istore dX3_shared_21 (by decide) rfl ?_
      exact loop nc 0 rfl
    · rw [bI_e0] at c13
      refine x_iconst (v := (-1)) dX3_shared_16 (by decide +kernel) ?_
      first
        | exact x_ri dX3_shared_17 (by rw [if_neg (fun z => c5 z.1)])
        | exact x_ri dX3_shared_17 (by rw [if_neg (fun z => c13 z.2)])
set_option maxHeartbeats 4000000 in
theorem c_X3_isHeld (l : Launch) (D : va_G) {K N : Nat → Nat} {R : Nat → Nat → Nat} {I : Nat → Nat → Int32} {J : Nat → Nat → Int64} {sz : Nat} {m : Nat} (mw : MW m K N R) {nv k but : Nat} {id : Int32} (h4 : I m 4 = nI nv) (hnv : nv ≤ 60) (hk : k < 64) (hb : but < 60) : XM l D yX3_isHeld cX3_isHeld 5 (some .boolean) 0 0 0 [.ref m, .int id, .int (nI k), .int (nI but)] K N R I J sz (Zx (some (.int (bI (anyP (fun i => i != but && (I (m + 6) i == 0 && I (m + 3) (64 * i + k) == id)) nv = true)))) K N R I J sz) := by
  have loop : ∀ (t i : Nat), t + i = nv → (∀ j, j < i → (fun i => i != but && (I (m + 6) i == 0 && I (m + 3) (64 * i + k) == id)) j = false) → XW l D (fun _ => True) RX3 "isHeld" cX3_isHeld 5 0 0 0 K sz (Zx (some (.int (bI (anyP (fun i => i != but && (I (m + 6) i == 0 && I (m + 3) (64 * i + k) == id)) nv = true)))) K N R I J sz) 3 [.ref m, .int id, .int (nI k), .int (nI but), .int (nI i)] [] K N R (I) (J) sz 0 0 := by
    intro t
    induction t with
    | zero =>
      intro i hi hf
      refine x_iload dX3_isHeld_3 rfl ?_
      refine x_aload_n dX3_isHeld_5 rfl ?_
      refine x_geti dX3_isHeld_6 fl_X3_51 mw.k rfl ?_
      refine x_icmp_ge 52 dX3_isHeld_9 (by decide) (fun c9 => ?_) (fun c9 => ?_)
      · obtain rfl : i = nv := by omega
        refine x_iconst (v := (0)) dX3_isHeld_52 (by decide +kernel) ?_
        exact x_ri dX3_isHeld_53 (by rw [bI_f]; rw [anyP_f hf]; simp)
      · exact absurd (by rw [h4]; exact nI_le (by omega) (by omega)) c9
    | succ t ih =>
      intro i hi hf
      refine x_iload dX3_isHeld_3 rfl ?_
      refine x_aload_n dX3_isHeld_5 rfl ?_
      refine x_geti dX3_isHeld_6 fl_X3_51 mw.k rfl ?_
      refine x_icmp_ge 52 dX3_isHeld_9 (by decide) (fun c9 => ?_) (fun c9 => ?_)
      · rw [h4] at c9; exact absurd c9 (nI_ge (by omega) (by omega))
      · refine x_iload dX3_isHeld_12 rfl ?_
        refine x_iload_n dX3_isHeld_14 rfl ?_
        refine x_icmp_eq 46 dX3_isHeld_15 (by decide) (fun c15 => ?_) (fun c15 => ?_)
        · rw [nI_eq (by omega) (by omega)] at c15
          refine x_iinc dX3_isHeld_46 rfl rfl (by decide) rfl ?_
          refine x_goto 3 dX3_isHeld_49 (by decide) ?_
          refine x_eql (by simp [nI_1]) (ih (i + 1) (by omega) (lt_s hf ?_))
          first
            | simp [c15, c25, c41]
            | simp [c15, c25]
            | simp [c15]
        · rw [nI_eq (by omega) (by omega)] at c15
          refine x_aload_n dX3_isHeld_18 rfl ?_
          refine x_getq dX3_isHeld_19 fl_X3_26 mw.k mw.r11 rfl ?_
          refine x_iload dX3_isHeld_22 rfl ?_
          refine x_zald _ dX3_isHeld_24 mw.k11 mw.n11 rfl (by omega) (by decide) ?_
          refine x_if_ne 46 dX3_isHeld_25 (by decide) (fun c25 => ?_) (fun c25 => ?_)
          · refine x_iinc dX3_isHeld_46 rfl rfl (by decide) rfl ?_
            refine x_goto 3 dX3_isHeld_49 (by decide) ?_
            refine x_eql (by simp [nI_1]) (ih (i + 1) (by omega) (lt_s hf ?_))
            first
              | simp [c15, c25, c41]
              | simp [c15, c25]
              | simp [c15]
          · refine x_aload_n dX3_isHeld_28 rfl ?_
            refine x_getq dX3_isHeld_29 fl_X3_16 mw.k mw.r8 rfl ?_
            refine x_bipush (v := (nI 64)) dX3_isHeld_32 (by decide +kernel) ?_
            refine x_iload dX3_isHeld_34 rfl ?_
            refine x_imul dX3_isHeld_36 ?_
            refine x_iload_n dX3_isHeld_37 rfl ?_
            refine x_iadd dX3_isHeld_38 ?_
            refine x_iald (64 * i + k) dX3_isHeld_39 mw.k8 mw.n8 (by rw [pk_mul, nI_add]) (by omega) (by decide) ?_
            refine x_iload_n dX3_isHeld_40 rfl ?_
            refine x_icmp_ne 46 dX3_isHeld_41 (by decide) (fun c41 => ?_) (fun c41 => ?_)
            · refine x_iinc dX3_isHeld_46 rfl rfl (by decide) rfl ?_
              refine x_goto 3 dX3_isHeld_49 (by decide) ?_
              refine x_eql (by simp [nI_1]) (ih (i + 1) (by omega) (lt_s hf ?_))
              first
                | simp [c15, c25, c41]
                | simp [c15, c25]
                | simp [c15]
            · refine x_iconst (v := (1)) dX3_isHeld_44 (by decide +kernel) ?_
              exact x_ri dX3_isHeld_45 (by rw [bI_t]; exact anyP_t (i := i) (by omega) (by simp [c15, c25, c41]))
  refine XM.of (own := RX3) (nm := "isHeld") (by decide +kernel) rfl rfl (by simp [xla, Value.category]) [.ref m, .int id, .int (nI k), .int (nI but), .null] rfl (Zx.rt bI_rt) ?_
  refine x_iconst (v := (0)) dX3_isHeld_0 (by decide +kernel) ?_
  refine x_istore dX3_isHeld_1 (by decide) rfl ?_
  exact loop nv 0 rfl (fun j hj => by omega)
