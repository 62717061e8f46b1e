/-! The class: letting go, what was -/
def lgI (I : Nat → Nat → Int32) (x r : Nat) : Nat → Nat → Int32 := va_up (va_up I r (va_up (I r) 3 1)) x (va_up (I x) 9 (I x 9 + 1))
def lgH (R : Nat → Nat → Nat) (I : Nat → Nat → Int32) (x nv r k : Nat) : Bool := anyP (fun i => lgI I x r (R (x + 1) i) 3 == 0 && lgI I x r (R (x + 1) i + 3) k == lgI I x r (r + 3) k) nv
set_option maxHeartbeats 4000000 in
theorem c_X2_letGo (l : Launch) (D : va_G) {K N : Nat → Nat} {R : Nat → Nat → Nat} {I : Nat → Nat → Int32} {J : Nat → Nat → Int64} {sz : Nat} {x : Nat} (cw : CW x K N R) {nv : Nat} (h8 : I x 8 = nI nv) (hnv : nv ≤ 60) (hvv : ∀ i, i < nv → R (x + 1) i ≠ 0) {nc : Nat} (h7 : I x 7 = nI nc) (hnc : nc ≤ 64) (qv : Int32) : XM l D yX2_letGo cX2_letGo 5 (some .int) 3 0 0 [.ref x, .int qv] K N R I J sz (Zx (some (.int (if pL R I x nv qv ∧ ¬ qv = 0 then nI (cntP (fun k => !lgH R I x nv (R (x + 1) qv.toNatClampNeg) k) nc) else -1))) K N R (if pL R I x nv qv ∧ ¬ qv = 0 then va_up (lgI I x (R (x + 1) qv.toNatClampNeg)) x (va_up (lgI I x (R (x + 1) qv.toNatClampNeg) x) 11 (I x 11 + nI (cntP (fun k => !lgH R I x nv (R (x + 1) qv.toNatClampNeg) k) nc))) else I) J sz) := by
  refine XM.of (own := RX2) (nm := "letGo") (by decide +kernel) rfl rfl (by simp [xla, Value.category]) [.ref x, .int qv, .null, .null, .null] rfl (Zx.rt ⟨_, rfl⟩) ?_
  refine x_aload_n dX2_letGo_0 rfl ?_
  refine x_iload_n dX2_letGo_1 rfl ?_
  refine x_eV (c_X2_living l D cw h8 hnv hvv _) dX2_letGo_2 lk_X2_67 im_X2_living se_X2_living cd_X2_living (by decide) cw.k vcX2 rfl (by decide) rfl (by first | decide | simp [Value.category]) ?_
  refine x_astore_n dX2_letGo_5 (by decide) rfl ?_
  refine x_aload_n dX2_letGo_6 rfl ?_
  refine x_ifnull 14 dX2_letGo_7 (by decide) (fun c7 => ?_) (fun c7 => ?_)
  · have c7 := liv_n (fun z => hvv _ z.1.2) c7
    have hG : ¬ (pL R I x nv qv ∧ ¬ qv = 0) := fun z => c7 z.1
    refine x_iconst (v := (-1)) dX2_letGo_14 (by decide +kernel) ?_
    exact x_zi dX2_letGo_15 ⟨by rw [if_neg hG], rfl, rfl, rfl, by rw [if_neg hG], rfl, rfl⟩
  · have hv : pL R I x nv qv := liv_s c7
    simp only [if_pos hv]
    obtain ⟨vj, hbv, rfl⟩ := pN_ex hv.1
    have hcv : (nI vj).toNatClampNeg = vj := nI_clamp (by omega)
    simp only [hcv]
    have hw := cw.wv (show vj < 60 by omega) (hvv vj hbv)
    refine x_iload_n dX2_letGo_10 rfl ?_
    refine x_if_ne 16 dX2_letGo_11 (by decide) (fun c11 => ?_) (fun c11 => ?_)
    · have hG : pL R I x nv (nI vj) ∧ ¬ nI vj = 0 := ⟨hv, c11⟩
      have hxr : x ≠ (R (x + 1) vj) := by have := cw.wg (show vj < 60 by omega) (hvv vj hbv); omega
      have l8 : lgI I x (R (x + 1) vj) x 8 = nI nv := by simp [lgI, va_up, h8]
      have l7 : lgI I x (R (x + 1) vj) x 7 = nI nc := by simp [lgI, va_up, h7]
      have l11 : lgI I x (R (x + 1) vj) x 11 = I x 11 := by simp [lgI, va_up]
      have loop : ∀ (t k : Nat), t + k = nc → XW l D (fun _ => True) RX2 "letGo" cX2_letGo 5 3 0 0 K sz (Zx (some (.int (if pL R I x nv (nI vj) ∧ ¬ (nI vj) = 0 then nI (cntP (fun k => !lgH R I x nv (R (x + 1) vj) k) nc) else -1))) K N R (if pL R I x nv (nI vj) ∧ ¬ (nI vj) = 0 then va_up (lgI I x (R (x + 1) vj)) x (va_up (lgI I x (R (x + 1) vj) x) 11 (I x 11 + nI (cntP (fun k => !lgH R I x nv (R (x + 1) vj) k) nc))) else I) J sz) 36 [.ref x, .int (nI vj), .ref (R (x + 1) vj), .int (nI (cntP (fun k => !lgH R I x nv (R (x + 1) vj) k) k)), .int (nI k)] [] K N R (lgI I x (R (x + 1) vj)) (J) sz 0 0 := by
        intro t
        induction t with
        | zero =>
          intro k hk
          refine x_iload dX2_letGo_36 rfl ?_
          refine x_aload_n dX2_letGo_38 rfl ?_
          refine x_geti dX2_letGo_39 fl_X2_32 cw.k rfl ?_
          refine x_icmp_ge 70 dX2_letGo_42 (by decide) (fun c42 => ?_) (fun c42 => ?_)
          · obtain rfl : k = nc := by omega
            refine x_aload_n dX2_letGo_70 rfl ?_
            refine x_dup dX2_letGo_71 rfl ?_
            refine x_geti dX2_letGo_72 fl_X2_54 cw.k rfl ?_
            refine x_iload_n dX2_letGo_75 rfl ?_
            refine x_iadd dX2_letGo_76 ?_
            refine x_puti dX2_letGo_77 fl_X2_54 cw.k rfl (Or.inl rfl) ?_
            refine x_iload_n dX2_letGo_80 rfl ?_
            exact x_zi dX2_letGo_81 ⟨by rw [if_pos hG], rfl, rfl, rfl, by rw [if_pos hG, l11], rfl, rfl⟩
          · exact absurd (by rw [l7]; exact nI_le (by omega) (by omega)) c42
        | succ t ih =>
          intro k hk
          refine x_iload dX2_letGo_36 rfl ?_
          refine x_aload_n dX2_letGo_38 rfl ?_
          refine x_geti dX2_letGo_39 fl_X2_32 cw.k rfl ?_
          refine x_icmp_ge 70 dX2_letGo_42 (by decide) (fun c42 => ?_) (fun c42 => ?_)
          · rw [l7] at c42; exact absurd c42 (nI_ge (by omega) (by omega))
          · refine x_aload_n dX2_letGo_45 rfl ?_
            refine x_iload dX2_letGo_46 rfl ?_
            refine x_aload_n dX2_letGo_48 rfl ?_
            refine x_getq dX2_letGo_49 fl_X2_90 hw.k hw.r6 rfl ?_
            refine x_iload dX2_letGo_52 rfl ?_
            refine x_iald (k) dX2_letGo_54 hw.k6 hw.n6 rfl (by omega) (by decide) ?_
            refine x_eV (c_X2_isChunkHeld l D cw l8 hnv hvv (k := k) (by omega)) dX2_letGo_55 lk_X2_179 im_X2_isChunkHeld se_X2_isChunkHeld cd_X2_isChunkHeld (by decide) cw.k vcX2 rfl (by decide) rfl (by first | decide | simp [Value.category]) ?_
            refine x_if_ne 64 dX2_letGo_58 (by decide) (fun c58 => ?_) (fun c58 => ?_)
            · rw [bI_n0] at c58
              have c58 : lgH R I x nv (R (x + 1) vj) k = true := c58
              refine x_iinc dX2_letGo_64 rfl rfl (by decide) rfl ?_
              refine x_goto 36 dX2_letGo_67 (by decide) ?_
              exact x_eql (by show [_, _, _, Value.int _, Value.int _] = _; simp [cntP, c58, nI_1]) (ih (k + 1) (by omega))
            · rw [bI_e0] at c58
              have c58 : lgH R I x nv (R (x + 1) vj) k = false := by simpa [lgH] using c58
              refine x_iinc dX2_letGo_61 rfl rfl (by decide) rfl ?_
              refine x_iinc dX2_letGo_64 rfl rfl (by decide) rfl ?_
              refine x_goto 36 dX2_letGo_67 (by decide) ?_
              exact x_eql (by show [_, _, _, Value.int _, Value.int _] = _; simp [cntP, c58, nI_1]) (ih (k + 1) (by omega))
      refine x_aload_n dX2_letGo_16 rfl ?_
      refine x_iconst (v := (1)) dX2_letGo_17 (by decide +kernel) ?_
      refine x_puti dX2_letGo_18 fl_X2_175 hw.k rfl (Or.inr ⟨rfl, by decide⟩) ?_
      refine x_aload_n dX2_letGo_21 rfl ?_
      refine x_dup dX2_letGo_22 rfl ?_
      refine x_geti dX2_letGo_23 fl_X2_48 cw.k rfl ?_
      refine x_iconst (v := (1)) dX2_letGo_26 (by decide +kernel) ?_
      refine x_iadd dX2_letGo_27 ?_
      refine x_puti dX2_letGo_28 fl_X2_48 cw.k rfl (Or.inl rfl) ?_
      rw [va_up_ne _ _ hxr]
      refine x_iconst (v := (0)) dX2_letGo_31 (by decide +kernel) ?_
      refine x_istore_n dX2_letGo_32 (by decide) rfl ?_
      refine x_iconst (v := (0)) dX2_letGo_33 (by decide +kernel) ?_
      refine x_istore dX2_letGo_34 (by decide) rfl ?_
      exact x_eqh (by rfl) rfl (x_eql rfl (loop nc 0 rfl))
    · have hG : ¬ (pL R I x nv (nI vj) ∧ ¬ nI vj = 0) := fun z => z.2 c11
      refine x_iconst (v := (-1)) dX2_letGo_14 (by decide +kernel) ?_
      exact x_zi dX2_letGo_15 ⟨by rw [if_neg hG], rfl, rfl, rfl, by rw [if_neg hG], rfl, rfl⟩
/-- what an item is in a version of the class -/
def cit (J : Nat → Nat → Int64) (r q : Nat) : Int64 := if q % 66 < 64 then it (J (r + 1) (q / 66)) (q % 66) else J (r + 2) (q / 66 * 2 + (q % 66 - 64))
set_option maxHeartbeats 4000000 in
theorem c_X2_was (l : Launch) (D : va_G) {K N : Nat → Nat} {R : Nat → Nat → Nat} {I : Nat → Nat → Int32} {J : Nat → Nat → Int64} {sz : Nat} {x : Nat} (cw : CW x K N R) (hm : I (x + 2) 0 = nI (fL (J (x + 2 + 1)) (J (x + 2 + 2)) 64).length) (hb : ∀ j q : Nat, ((fL (J (x + 2 + 1)) (J (x + 2 + 2)) 64))[j]? = some q → q < 4224) (h3 : R x 3 = 0 ∨ VW (R x 3) K N R) (h4 : R x 4 = 0 ∨ VW (R x 4) K N R) (qk qs : Int32) : XM l D yX2_was cX2_was 7 (some .long) 3 0 0 [.ref x, .int qk, .int qs] K N R I J sz (Zx (some (.long (if pN (fL (J (x + 2 + 1)) (J (x + 2 + 2)) 64).length qk ∧ (if qs = 0 then R x 3 else R x 4) ≠ 0 ∧ (¬ qs < 0 ∧ ¬ 1 < qs) then cit J (if qs = 0 then R x 3 else R x 4) (((fL (J (x + 2 + 1)) (J (x + 2 + 2)) 64)[qk.toNatClampNeg]?).getD 0) else 0))) K N R I J sz) := by
  refine XM.of (own := RX2) (nm := "was") (by decide +kernel) rfl rfl (by simp [xla, Value.category]) [.ref x, .int qk, .int qs, .null, .null, .null, .null] rfl (Zx.rt ⟨_, rfl⟩) ?_
  have hf := c_X0_find l D (sz := sz) cw.wu hm qk
  obtain ⟨iq, hiq⟩ : ∃ iq : Int32, iq = (if pN (fL (J (x + 2 + 1)) (J (x + 2 + 2)) 64).length qk then nI (((fL (J (x + 2 + 1)) (J (x + 2 + 2)) 64)[qk.toNatClampNeg]?).getD 0) else -1) := ⟨_, rfl⟩
  rw [← hiq] at hf
  obtain ⟨ar, har⟩ : ∃ ar : Nat, ar = (if qs = 0 then R x 3 else R x 4) := ⟨_, rfl⟩
  have hvw : ar = 0 ∨ VW ar K N R := by rw [har]; split; exact h3; exact h4
  rw [← har]
  have tail : XW l D (fun _ => True) RX2 "was" cX2_was 7 3 0 0 K sz (Zx (some (.long (if pN (fL (J (x + 2 + 1)) (J (x + 2 + 2)) 64).length qk ∧ ar ≠ 0 ∧ (¬ qs < 0 ∧ ¬ 1 < qs) then cit J ar (((fL (J (x + 2 + 1)) (J (x + 2 + 2)) 64)[qk.toNatClampNeg]?).getD 0) else 0))) K N R I J sz) 26 [.ref x, .int qk, .int qs, .int iq, .ref ar, .null, .null] [] K N R (I) (J) sz 0 0 := by
    refine x_iload_n dX2_was_26 rfl ?_
    refine x_if_lt 44 dX2_was_27 (by decide) (fun c27 => ?_) (fun c27 => ?_)
    · have hG : ¬ (pN (fL (J (x + 2 + 1)) (J (x + 2 + 2)) 64).length qk ∧ ar ≠ 0 ∧ (¬ qs < 0 ∧ ¬ 1 < qs)) := fun z => by
        rw [if_pos z.1] at hiq
        rw [hiq] at c27
        exact absurd c27 (nI_pos (by
          have hq : ((fL (J (x + 2 + 1)) (J (x + 2 + 2)) 64))[qk.toNatClampNeg]? = some ((((fL (J (x + 2 + 1)) (J (x + 2 + 2)) 64))[qk.toNatClampNeg]?).getD 0) := by rw [List.getElem?_eq_getElem z.1.2]; rfl
          have := hb _ _ hq
          omega))
      refine x_lconst (v := 0) dX2_was_44 (by decide +kernel) ?_
      exact x_rl dX2_was_45 (by rw [if_neg hG])
    · have hp : pN (fL (J (x + 2 + 1)) (J (x + 2 + 2)) 64).length qk := by
        by_cases z : pN (fL (J (x + 2 + 1)) (J (x + 2 + 2)) 64).length qk
        · exact z
        · rw [if_neg z] at hiq
          exact absurd (by rw [hiq]; decide) c27
      rw [if_pos hp] at hiq
      have hq : ((fL (J (x + 2 + 1)) (J (x + 2 + 2)) 64))[qk.toNatClampNeg]? = some ((((fL (J (x + 2 + 1)) (J (x + 2 + 2)) 64))[qk.toNatClampNeg]?).getD 0) := by rw [List.getElem?_eq_getElem hp.2]; rfl
      have hq2 := hb _ _ hq
      obtain ⟨q, hqe⟩ : ∃ q, q = (((fL (J (x + 2 + 1)) (J (x + 2 + 2)) 64))[qk.toNatClampNeg]?).getD 0 := ⟨_, rfl⟩
      rw [← hqe] at hiq hq2 ⊢
      subst hiq
      refine x_aload dX2_was_30 rfl ?_
      refine x_ifnull 44 dX2_was_32 (by decide) (fun c32 => ?_) (fun c32 => ?_)
      · have hG : ¬ (pN (fL (J (x + 2 + 1)) (J (x + 2 + 2)) 64).length qk ∧ ar ≠ 0 ∧ (¬ qs < 0 ∧ ¬ 1 < qs)) := fun z => z.2.1 c32
        refine x_lconst (v := 0) dX2_was_44 (by decide +kernel) ?_
        exact x_rl dX2_was_45 (by rw [if_neg hG])
      · have hw := hvw.resolve_left c32
        refine x_iload_n dX2_was_35 rfl ?_
        refine x_if_lt 44 dX2_was_36 (by decide) (fun c36 => ?_) (fun c36 => ?_)
        · have hG : ¬ (pN (fL (J (x + 2 + 1)) (J (x + 2 + 2)) 64).length qk ∧ ar ≠ 0 ∧ (¬ qs < 0 ∧ ¬ 1 < qs)) := fun z => z.2.2.1 c36
          refine x_lconst (v := 0) dX2_was_44 (by decide +kernel) ?_
          exact x_rl dX2_was_45 (by rw [if_neg hG])
        · refine x_iload_n dX2_was_39 rfl ?_
          refine x_iconst (v := (1)) dX2_was_40 (by decide +kernel) ?_
          refine x_icmp_le 46 dX2_was_41 (by decide) (fun c41 => ?_) (fun c41 => ?_)
          · have hG : pN (fL (J (x + 2 + 1)) (J (x + 2 + 2)) 64).length qk ∧ ar ≠ 0 ∧ (¬ qs < 0 ∧ ¬ 1 < qs) := ⟨hp, c32, c36, Int32.not_lt.mpr c41⟩
            refine x_iload_n dX2_was_46 rfl ?_
            refine x_bipush (v := (nI 66)) dX2_was_47 (by decide +kernel) ?_
            refine x_idiv dX2_was_49 (by decide +kernel) ?_
            rw [pk_div (a := q) (d := 66) (by omega) (by omega) (by omega)]
            refine x_istore dX2_was_50 (by decide) rfl ?_
            refine x_iload_n dX2_was_52 rfl ?_
            refine x_bipush (v := (nI 66)) dX2_was_53 (by decide +kernel) ?_
            refine x_irem dX2_was_55 (by decide +kernel) ?_
            rw [rem66 (by omega)]
            refine x_istore dX2_was_56 (by decide) rfl ?_
            refine x_iload dX2_was_58 rfl ?_
            refine x_bipush (v := (nI 64)) dX2_was_60 (by decide +kernel) ?_
            refine x_icmp_lt 78 dX2_was_62 (by decide) (fun c62 => ?_) (fun c62 => ?_)
            · have c62 : q % 66 < 64 := (nI_ltI (by omega) (by omega)).mp c62
              refine x_aload dX2_was_78 rfl ?_
              refine x_iload dX2_was_80 rfl ?_
              refine x_iload dX2_was_82 rfl ?_
              refine x_eV (c_X1_leads l D hw (n := q / 66) (t := q % 66) (by omega) c62) dX2_was_84 lk_X2_105 im_X1_leads se_X1_leads cd_X1_leads (by decide) hw.k vcX1 rfl (by decide) rfl (by first | decide | simp [Value.category]) ?_
              refine x_if_eq 94 dX2_was_87 (by decide) (fun c87 => ?_) (fun c87 => ?_)
              · rw [bI_e0] at c87
                have hz : it (J (ar + 1) (q / 66)) (q % 66) = 0 := it_0.mpr (by simpa using c87)
                refine x_lconst (v := 0) dX2_was_94 (by decide +kernel) ?_
                exact x_rl dX2_was_95 (by rw [if_pos hG, cit, if_pos c62, hz])
              · rw [bI_n0] at c87
                have hz : it (J (ar + 1) (q / 66)) (q % 66) = 1 := it_1.mpr c87
                refine x_lconst (v := 1) dX2_was_90 (by decide +kernel) ?_
                refine x_goto 95 dX2_was_91 (by decide) ?_
                exact x_rl dX2_was_95 (by rw [if_pos hG, cit, if_pos c62, hz])
            · have c62 : ¬ q % 66 < 64 := fun z => c62 (nI_lt z (by omega))
              refine x_aload dX2_was_65 rfl ?_
              refine x_iload dX2_was_67 rfl ?_
              refine x_iload dX2_was_69 rfl ?_
              refine x_bipush (v := (nI 64)) dX2_was_71 (by decide +kernel) ?_
              refine x_isub dX2_was_73 ?_
              rw [pk_sub (show 64 ≤ q % 66 by omega)]
              refine x_eV (c_X1_numberAt l D hw (n := q / 66) (c := q % 66 - 64) (by omega) (by omega)) dX2_was_74 lk_X2_82 im_X1_numberAt se_X1_numberAt cd_X1_numberAt (by decide) hw.k vcX1 rfl (by decide) rfl (by first | decide | simp [Value.category]) ?_
              exact x_rl dX2_was_77 (by rw [if_pos hG, cit, if_neg c62])
          · have hG : ¬ (pN (fL (J (x + 2 + 1)) (J (x + 2 + 2)) 64).length qk ∧ ar ≠ 0 ∧ (¬ qs < 0 ∧ ¬ 1 < qs)) := fun z => z.2.2.2 (Int32.not_le.mp c41)
            refine x_lconst (v := 0) dX2_was_44 (by decide +kernel) ?_
            exact x_rl dX2_was_45 (by rw [if_neg hG])
  refine x_aload_n dX2_was_0 rfl ?_
  refine x_getq dX2_was_1 fl_X2_18 cw.k cw.r1 rfl ?_
  refine x_iload_n dX2_was_4 rfl ?_
  refine x_eV (hf) dX2_was_5 lk_X2_142 im_X0_find se_X0_find cd_X0_find (by decide) cw.wu.k vcX0 rfl (by decide) rfl (by first | decide | simp [Value.category]) ?_
  refine x_istore_n dX2_was_8 (by decide) rfl ?_
  refine x_iload_n dX2_was_9 rfl ?_
  refine x_if_ne 20 dX2_was_10 (by decide) (fun c10 => ?_) (fun c10 => ?_)
  · rw [if_neg c10] at har
    refine x_aload_n dX2_was_20 rfl ?_
    refine x_getq dX2_was_21 fl_X2_42 cw.k rfl rfl ?_
    refine x_astore dX2_was_24 (by decide) rfl ?_
    exact x_eql (by show [_, _, _, _, Value.ref _, _, _] = _; rw [har]) tail
  · rw [if_pos c10] at har
    refine x_aload_n dX2_was_13 rfl ?_
    refine x_getq dX2_was_14 fl_X2_38 cw.k rfl rfl ?_
    refine x_goto 24 dX2_was_17 (by decide) ?_
    refine x_astore dX2_was_24 (by decide) rfl ?_
    exact x_eql (by show [_, _, _, _, Value.ref _, _, _] = _; rw [har]) tail
