/-! The class: rows, conflicts -/
section
variable {l : Launch} {D : va_G} {X : State → Prop} {own nm : String} {cc : ByteArray} {nL d mc ms : Nat} {K0 : Nat → Nat} {sz0 : Nat} {Z : ZT} {pc : Nat} {L st : List Value} {K N : Nat → Nat} {R : Nat → Nat → Nat} {I : Nat → Nat → Int32} {J : Nat → Nat → Int64} {sz kc ks : Nat}
theorem x_genR (kk : ∀ (R' : Nat → Nat → Nat), R' = R → XW l D X own nm cc nL d mc ms K0 sz0 Z pc L st K N R' I J sz kc ks) : XW l D X own nm cc nL d mc ms K0 sz0 Z pc L st K N R I J sz kc ks := kk R rfl
end
def ucw (dd : Nat → Bool) : Nat → Int64
  | 0 => 0
  | c + 1 => if dd c then ucw dd c ||| (1 : Int64) <<< ((nI c).toInt64 &&& 63) else ucw dd c
theorem ucw_cnt (dd : Nat → Bool) : cntP (bt (ucw dd 2)) 64 = cntP dd 2 := by
  have key : ∀ (e0 e1 : Bool), cntP (bt (if e1 then (if e0 then (0 : Int64) ||| (1 : Int64) <<< ((nI 0).toInt64 &&& 63) else 0) ||| (1 : Int64) <<< ((nI 1).toInt64 &&& 63) else (if e0 then (0 : Int64) ||| (1 : Int64) <<< ((nI 0).toInt64 &&& 63) else 0))) 64 = 0 + (if e0 then 1 else 0) + (if e1 then 1 else 0) := by decide +kernel
  exact key (dd 0) (dd 1)
theorem ucw_bt (dd : Nat → Bool) {c : Nat} (hc : c < 64) : bt (ucw dd 2) c = (decide (c < 2) && dd c) := by
  have h0 : dd 0 = true ∨ dd 0 = false := by cases dd 0 <;> simp
  have h1 : dd 1 = true ∨ dd 1 = false := by cases dd 1 <;> simp
  have key : ∀ (e0 e1 : Bool), ∀ c, c < 64 → bt (if e1 then (if e0 then (0 : Int64) ||| (1 : Int64) <<< ((nI 0).toInt64 &&& 63) else 0) ||| (1 : Int64) <<< ((nI 1).toInt64 &&& 63) else (if e0 then (0 : Int64) ||| (1 : Int64) <<< ((nI 0).toInt64 &&& 63) else 0)) c = (decide (c < 2) && (if c = 0 then e0 else e1)) := by decide +kernel
  have := key (dd 0) (dd 1) c hc
  simp only [ucw]
  rw [this]
  by_cases h2 : c < 2
  · have : c = 0 ∨ c = 1 := by omega
    rcases this with rfl | rfl <;> simp
  · simp [h2]
def pz {α : Type} [OfNat α 0] (k : Nat) (A g : Nat → α) : Nat → α := fun n => if n < k then A n else if n < 64 then 0 else g n
theorem pz_step {α : Type} [OfNat α 0] {k : Nat} {A g : Nat → α} {u : α} (hu : u = A k) : va_up (pz k A g) k u = pz (k + 1) A g := by
  funext n
  by_cases h : n = k
  · subst h; rw [va_up_self, hu]; simp [pz]
  · rw [va_up_ne _ _ h]
    by_cases h2 : n < k
    · simp only [pz]; rw [if_pos h2, if_pos (by omega)]
    · simp only [pz]; rw [if_neg h2, if_neg (show ¬ n < k + 1 by omega)]
theorem pz_at {α : Type} [OfNat α 0] {k : Nat} {A g : Nat → α} (hk : k < 64) : pz k A g k = 0 := by simp [pz, hk]
theorem pz_0 {A g : Nat → Int64} : (fun i => if i < 64 then 0 else g i) = pz 0 A g := by funext n; simp [pz]
theorem up2_a {α : Type} {J : Nat → Nat → α} {a b : Nat} {F G H : Nat → α} (h : a ≠ b) : va_up (va_up (va_up J a F) b G) a H = va_up (va_up J a H) b G := by
  rw [va_up_comm _ (Ne.symm h), va_up_up]
theorem up2_ra {α : Type} {J : Nat → Nat → α} {a b : Nat} {F G : Nat → α} (h : a ≠ b) : va_up (va_up J a F) b G a = F := by rw [va_up_ne _ _ h, va_up_self]
theorem up2_ro {α : Type} {J : Nat → Nat → α} {a b c : Nat} {F G : Nat → α} (h : c ≠ a) (h2 : c ≠ b) : va_up (va_up J a F) b G c = J c := by rw [va_up_ne _ _ h2, va_up_ne _ _ h]
theorem or0 (w : Int64) : 0 ||| w = w := by
  apply Int64.toBitVec_inj.mp
  rw [Int64.toBitVec_or]
  exact BitVec.zero_or
def rA (J : Nat → Nat → Int64) (a b : Nat) : Nat → Int64 := fun n => J (a + 1) n ^^^ J (b + 1) n
def rDd (J : Nat → Nat → Int64) (a b n : Nat) : Nat → Bool := fun c => J (a + 2) (n * 2 + c) != J (b + 2) (n * 2 + c)
def rC (J : Nat → Nat → Int64) (a b : Nat) : Nat → Int64 := fun n => ucw (rDd J a b n) 2
def rsI (I : Nat → Nat → Int32) (u e : Nat) : Nat → Nat → Int32 := va_up I u (va_up (I u) 0 (nI e))
def rsJ (J : Nat → Nat → Int64) (u k : Nat) (A Cc : Nat → Int64) : Nat → Nat → Int64 := va_up (va_up J (u + 1) (pz k A (J (u + 1)))) (u + 2) (pz k Cc (J (u + 2)))
theorem rsI_add {I : Nat → Nat → Int32} {u e f : Nat} : va_up (rsI I u e) u (va_up (rsI I u e u) 0 (rsI I u e u 0 + nI f)) = rsI I u (e + f) := by
  simp only [rsI, va_up_self, va_up_up, nI_add]
set_option maxHeartbeats 4000000 in
theorem c_X2_rows (l : Launch) (D : va_G) {K N : Nat → Nat} {R : Nat → Nat → Nat} {I : Nat → Nat → Int32} {J : Nat → Nat → Int64} {sz : Nat} {x : Nat} (cw : CW x K N R) {nv : Nat} (h8 : I x 8 = nI nv) (hnv : nv ≤ 60) (hvv : ∀ i, i < nv → R (x + 1) i ≠ 0) {nn : Nat} (h5 : I x 5 = nI nn) (hnn : nn ≤ 64) (qv qa : Int32) : XM l D yX2_rows cX2_rows 7 (some .int) 2 0 0 [.ref x, .int qv, .int qa] K N R I J sz (Zx (some (.int (if pL R I x nv qv ∧ pL R I x nv qa then nI (fL (rA J (R (x + 1) qv.toNatClampNeg) (R (x + 1) qa.toNatClampNeg)) (rC J (R (x + 1) qv.toNatClampNeg) (R (x + 1) qa.toNatClampNeg)) nn).length else -1))) K N (if pL R I x nv qv ∧ pL R I x nv qa then va_up R x (va_up (va_up (R x) 3 (R (x + 1) qv.toNatClampNeg)) 4 (R (x + 1) qa.toNatClampNeg)) else R) (if pL R I x nv qv ∧ pL R I x nv qa then rsI I (x + 2) (fL (rA J (R (x + 1) qv.toNatClampNeg) (R (x + 1) qa.toNatClampNeg)) (rC J (R (x + 1) qv.toNatClampNeg) (R (x + 1) qa.toNatClampNeg)) nn).length else I) (if pL R I x nv qv ∧ pL R I x nv qa then rsJ J (x + 2) nn (rA J (R (x + 1) qv.toNatClampNeg) (R (x + 1) qa.toNatClampNeg)) (rC J (R (x + 1) qv.toNatClampNeg) (R (x + 1) qa.toNatClampNeg)) else J) sz) := by
  refine XM.of (own := RX2) (nm := "rows") (by decide +kernel) rfl rfl (by simp [xla, Value.category]) [.ref x, .int qv, .int qa, .null, .null, .null, .null] rfl (Zx.rt ⟨_, rfl⟩) ?_
  refine x_aload_n dX2_rows_0 rfl ?_
  refine x_iload_n dX2_rows_1 rfl ?_
  refine x_eV (c_X2_living l D cw h8 hnv hvv _) dX2_rows_2 lk_X2_67 im_X2_living se_X2_living cd_X2_living (by decide) cw.k vcX2 rfl (by decide) rfl (by first | decide | simp [Value.category]) ?_
  refine x_astore_n dX2_rows_5 (by decide) rfl ?_
  refine x_aload_n dX2_rows_6 rfl ?_
  refine x_iload_n dX2_rows_7 rfl ?_
  refine x_eV (c_X2_living l D cw h8 hnv hvv _) dX2_rows_8 lk_X2_67 im_X2_living se_X2_living cd_X2_living (by decide) cw.k vcX2 rfl (by decide) rfl (by first | decide | simp [Value.category]) ?_
  refine x_astore dX2_rows_11 (by decide) rfl ?_
  refine x_aload_n dX2_rows_13 rfl ?_
  refine x_ifnull 22 dX2_rows_14 (by decide) (fun c14 => ?_) (fun c14 => ?_)
  · have c14 := liv_n (fun z => hvv _ z.1.2) c14
    have hG : ¬ (pL R I x nv qv ∧ pL R I x nv qa) := fun z => c14 z.1
    refine x_iconst (v := (-1)) dX2_rows_22 (by decide +kernel) ?_
    exact x_zi dX2_rows_23 ⟨by rw [if_neg hG], rfl, rfl, by rw [if_neg hG], by rw [if_neg hG], by rw [if_neg hG], rfl⟩
  · have hv : pL R I x nv qv := liv_s c14
    simp only [if_pos hv]
    obtain ⟨vj, hbv, rfl⟩ := pN_ex hv.1
    have hcv : (nI vj).toNatClampNeg = vj := nI_clamp (by omega)
    simp only [hcv]
    have hw := cw.wv (show vj < 60 by omega) (hvv vj hbv)
    refine x_aload dX2_rows_17 rfl ?_
    refine x_ifnonnull 24 dX2_rows_19 (by decide) (fun c19 => ?_) (fun c19 => ?_)
    · have ha : pL R I x nv qa := liv_s c19
      simp only [if_pos ha]
      obtain ⟨aj, hba, rfl⟩ := pN_ex ha.1
      have hca : (nI aj).toNatClampNeg = aj := nI_clamp (by omega)
      simp only [hca]
      have hw2 := cw.wv (show aj < 60 by omega) (hvv aj hba)
      have hG : pL R I x nv (nI vj) ∧ pL R I x nv (nI aj) := ⟨hv, ha⟩
      simp only [if_pos hG]
      have ga := cw.wg (show vj < 60 by omega) (hvv vj hbv)
      have gb := cw.wg (show aj < 60 by omega) (hvv aj hba)
      refine x_aload_n dX2_rows_24 rfl ?_
      refine x_aload_n dX2_rows_25 rfl ?_
      refine x_putr dX2_rows_26 fl_X2_38 cw.k (Or.inl rfl) (Or.inl ⟨_, rfl⟩) ?_
      refine x_aload_n dX2_rows_29 rfl ?_
      refine x_aload dX2_rows_30 rfl ?_
      refine x_putr dX2_rows_32 fl_X2_42 cw.k (Or.inl rfl) (Or.inl ⟨_, rfl⟩) ?_
      refine x_genR fun R1 hR1 => ?_
      simp only [va_up_self, va_up_up] at hR1
      rw [← hR1]
      have cwR : CW x K N R1 := by
        rw [hR1]
        have := (cw.putc (k := 3) (q := R (x + 1) vj) (by omega)).putc (k := 4) (q := R (x + 1) aj) (by omega)
        rwa [va_up_self, va_up_up] at this
      have hRx : R1 (x + 1) = R (x + 1) := by rw [hR1, va_up_ne _ _ (by omega)]
      have hwa : VW (R (x + 1) vj) K N R1 := by
        have := cwR.wv (show vj < 60 by omega) (by rw [hRx]; exact hvv vj hbv)
        rwa [hRx] at this
      have hwb : VW (R (x + 1) aj) K N R1 := by
        have := cwR.wv (show aj < 60 by omega) (by rw [hRx]; exact hvv aj hba)
        rwa [hRx] at this
      have hja : ∀ q, rsJ J (x + 2) q (rA J (R (x + 1) vj) (R (x + 1) aj)) (rC J (R (x + 1) vj) (R (x + 1) aj)) (R (x + 1) vj + 1) = J (R (x + 1) vj + 1) := fun q => up2_ro (by omega) (by omega)
      have hjb : ∀ q, rsJ J (x + 2) q (rA J (R (x + 1) vj) (R (x + 1) aj)) (rC J (R (x + 1) vj) (R (x + 1) aj)) (R (x + 1) aj + 1) = J (R (x + 1) aj + 1) := fun q => up2_ro (by omega) (by omega)
      have hj2a : ∀ F Gq : Nat → Int64, va_up (va_up J (x + 2 + 1) F) (x + 2 + 2) Gq (R (x + 1) vj + 2) = J (R (x + 1) vj + 2) := fun F Gq => up2_ro (by omega) (by omega)
      have hj2b : ∀ F Gq : Nat → Int64, va_up (va_up J (x + 2 + 1) F) (x + 2 + 2) Gq (R (x + 1) aj + 2) = J (R (x + 1) aj + 2) := fun F Gq => up2_ro (by omega) (by omega)
      have loop : ∀ (t k : Nat), t + k = nn → XW l D (fun _ => True) RX2 "rows" cX2_rows 7 2 0 0 K sz (Zx (some (.int (nI (fL (rA J (R (x + 1) vj) (R (x + 1) aj)) (rC J (R (x + 1) vj) (R (x + 1) aj)) nn).length))) K N R1 (rsI I (x + 2) (fL (rA J (R (x + 1) vj) (R (x + 1) aj)) (rC J (R (x + 1) vj) (R (x + 1) aj)) nn).length) (rsJ J (x + 2) nn (rA J (R (x + 1) vj) (R (x + 1) aj)) (rC J (R (x + 1) vj) (R (x + 1) aj))) sz) 45 [.ref x, .int (nI vj), .int (nI aj), .ref (R (x + 1) vj), .ref (R (x + 1) aj), .int (nI k), .null] [] K N R1 (rsI I (x + 2) ((fL (rA J (R (x + 1) vj) (R (x + 1) aj)) (rC J (R (x + 1) vj) (R (x + 1) aj)) k).length)) (rsJ J (x + 2) k (rA J (R (x + 1) vj) (R (x + 1) aj)) (rC J (R (x + 1) vj) (R (x + 1) aj))) sz 0 0 := by
        intro t
        induction t with
        | zero =>
          intro k hk
          have i5 : rsI I (x + 2) (fL (rA J (R (x + 1) vj) (R (x + 1) aj)) (rC J (R (x + 1) vj) (R (x + 1) aj)) k).length x 5 = nI nn := by rw [rsI, va_up_ne _ _ (by omega)]; exact h5
          refine x_iload dX2_rows_45 rfl ?_
          refine x_aload_n dX2_rows_47 rfl ?_
          refine x_geti dX2_rows_48 fl_X2_29 cwR.k rfl ?_
          refine x_icmp_ge 132 dX2_rows_51 (by decide) (fun c51 => ?_) (fun c51 => ?_)
          · obtain rfl : k = nn := by omega
            refine x_aload_n dX2_rows_132 rfl ?_
            refine x_getq dX2_rows_133 fl_X2_18 cwR.k cwR.r1 rfl ?_
            refine x_geti dX2_rows_136 fl_X2_139 cwR.wu.k rfl ?_
            exact x_ri dX2_rows_139 (by simp [rsI, va_up])
          · exact absurd (by rw [i5]; exact nI_le (by omega) (by omega)) c51
        | succ t ih =>
          intro k hk
          have i5 : rsI I (x + 2) (fL (rA J (R (x + 1) vj) (R (x + 1) aj)) (rC J (R (x + 1) vj) (R (x + 1) aj)) k).length x 5 = nI nn := by rw [rsI, va_up_ne _ _ (by omega)]; exact h5
          refine x_iload dX2_rows_45 rfl ?_
          refine x_aload_n dX2_rows_47 rfl ?_
          refine x_geti dX2_rows_48 fl_X2_29 cwR.k rfl ?_
          refine x_icmp_ge 132 dX2_rows_51 (by decide) (fun c51 => ?_) (fun c51 => ?_)
          · rw [i5] at c51; exact absurd c51 (nI_ge (by omega) (by omega))
          · refine x_aload_n dX2_rows_54 rfl ?_
            refine x_getq dX2_rows_55 fl_X2_18 cwR.k cwR.r1 rfl ?_
            refine x_iload dX2_rows_58 rfl ?_
            refine x_aload_n dX2_rows_60 rfl ?_
            refine x_getq dX2_rows_61 fl_X2_110 hwa.k hwa.r4 rfl ?_
            refine x_iload dX2_rows_64 rfl ?_
            refine x_lald (k) dX2_rows_66 hwa.k4 hwa.n4 rfl (by omega) (by decide) ?_
            refine x_aload dX2_rows_67 rfl ?_
            refine x_getq dX2_rows_69 fl_X2_110 hwb.k hwb.r4 rfl ?_
            refine x_iload dX2_rows_72 rfl ?_
            refine x_lald (k) dX2_rows_74 hwb.k4 hwb.n4 rfl (by omega) (by decide) ?_
            refine x_lxor dX2_rows_75 ?_
            rw [hja, hjb]
            refine x_eW (c_X0_addArcs l D cwR.wu (n := k) (by omega)) dX2_rows_76 lk_X2_131 im_X0_addArcs se_X0_addArcs cd_X0_addArcs (by decide) cwR.wu.k vcX0 rfl (by decide) rfl (by first | decide | simp [Value.category]) ?_
            refine x_eqh (I' := rsI I (x + 2) ((fL (rA J (R (x + 1) vj) (R (x + 1) aj)) (rC J (R (x + 1) vj) (R (x + 1) aj)) k).length + cntP (bt ((rA J (R (x + 1) vj) (R (x + 1) aj)) k)) 64 + cntP (rDd J (R (x + 1) vj) (R (x + 1) aj) k) 0)) (J' := va_up (va_up J (x + 2 + 1) (pz (k + 1) (rA J (R (x + 1) vj) (R (x + 1) aj)) (J (x + 2 + 1)))) (x + 2 + 2) (va_up (pz k (rC J (R (x + 1) vj) (R (x + 1) aj)) (J (x + 2 + 2))) k (ucw (rDd J (R (x + 1) vj) (R (x + 1) aj) k) 0))) ?_ ?_ ?_
            · exact rsI_add
            · rw [rsJ, up2_ra (by omega), up2_a (by omega), pz_at (by omega), or0, pz_step (show J (R (x + 1) vj + 1) k ^^^ J (R (x + 1) aj + 1) k = (rA J (R (x + 1) vj) (R (x + 1) aj)) k from rfl)]
              congr 1
              funext i
              by_cases e : i = k
              · subst e; rw [va_up_self, pz_at (by omega)]; rfl
              · rw [va_up_ne _ _ e]
            have col : ∀ (t2 c : Nat), t2 + c = 2 → XW l D (fun _ => True) RX2 "rows" cX2_rows 7 2 0 0 K sz (Zx (some (.int (nI (fL (rA J (R (x + 1) vj) (R (x + 1) aj)) (rC J (R (x + 1) vj) (R (x + 1) aj)) nn).length))) K N R1 (rsI I (x + 2) (fL (rA J (R (x + 1) vj) (R (x + 1) aj)) (rC J (R (x + 1) vj) (R (x + 1) aj)) nn).length) (rsJ J (x + 2) nn (rA J (R (x + 1) vj) (R (x + 1) aj)) (rC J (R (x + 1) vj) (R (x + 1) aj))) sz) 82 [.ref x, .int (nI vj), .int (nI aj), .ref (R (x + 1) vj), .ref (R (x + 1) aj), .int (nI k), .int (nI c)] [] K N R1 (rsI I (x + 2) ((fL (rA J (R (x + 1) vj) (R (x + 1) aj)) (rC J (R (x + 1) vj) (R (x + 1) aj)) k).length + cntP (bt ((rA J (R (x + 1) vj) (R (x + 1) aj)) k)) 64 + cntP (rDd J (R (x + 1) vj) (R (x + 1) aj) k) c)) (va_up (va_up J (x + 2 + 1) (pz (k + 1) (rA J (R (x + 1) vj) (R (x + 1) aj)) (J (x + 2 + 1)))) (x + 2 + 2) (va_up (pz k (rC J (R (x + 1) vj) (R (x + 1) aj)) (J (x + 2 + 2))) k (ucw (rDd J (R (x + 1) vj) (R (x + 1) aj) k) c))) sz 0 0 := by
              intro t2
              induction t2 with
              | zero =>
                intro c hc
                obtain rfl : c = 2 := by omega
                refine x_iload dX2_rows_82 rfl ?_
                refine x_iconst (v := (2)) dX2_rows_84 (by decide +kernel) ?_
                refine x_icmp_ge 126 dX2_rows_85 (by decide) (fun c85 => ?_) (fun c85 => ?_)
                · refine x_iinc dX2_rows_126 rfl rfl (by decide) rfl ?_
                  refine x_goto 45 dX2_rows_129 (by decide) ?_
                  refine x_drop 6 ?_
                  refine x_eqh (I' := rsI I (x + 2) ((fL (rA J (R (x + 1) vj) (R (x + 1) aj)) (rC J (R (x + 1) vj) (R (x + 1) aj)) (k + 1)).length)) (J' := rsJ J (x + 2) (k + 1) (rA J (R (x + 1) vj) (R (x + 1) aj)) (rC J (R (x + 1) vj) (R (x + 1) aj))) ?_ ?_ (x_eql (by show [_, _, _, _, _, Value.int _, _] = _; simp [nI_1]) (ih (k + 1) (by omega)))
                  · rw [fL_suc]; congr 1; rw [show (rC J (R (x + 1) vj) (R (x + 1) aj)) k = ucw (rDd J (R (x + 1) vj) (R (x + 1) aj) k) 2 from rfl, ucw_cnt]
                  · rw [rsJ, pz_step (show ucw (rDd J (R (x + 1) vj) (R (x + 1) aj) k) 2 = (rC J (R (x + 1) vj) (R (x + 1) aj)) k from rfl)]
                · exact absurd (nI_le (Nat.le_refl 2) (by omega)) c85
              | succ t2 ih2 =>
                intro c hc
                refine x_iload dX2_rows_82 rfl ?_
                refine x_iconst (v := (2)) dX2_rows_84 (by decide +kernel) ?_
                refine x_icmp_ge 126 dX2_rows_85 (by decide) (fun c85 => ?_) (fun c85 => ?_)
                · exact absurd c85 (nI_ge (show c < 2 by omega) (by decide))
                · refine x_aload_n dX2_rows_88 rfl ?_
                  refine x_iload dX2_rows_89 rfl ?_
                  refine x_iload dX2_rows_91 rfl ?_
                  refine x_eV (c_X1_numberAt l D hwa (n := k) (c := c) (by omega) (by omega)) dX2_rows_93 lk_X2_82 im_X1_numberAt se_X1_numberAt cd_X1_numberAt (by decide) hwa.k vcX1 rfl (by decide) rfl (by first | decide | simp [Value.category]) ?_
                  refine x_aload dX2_rows_96 rfl ?_
                  refine x_iload dX2_rows_98 rfl ?_
                  refine x_iload dX2_rows_100 rfl ?_
                  refine x_eV (c_X1_numberAt l D hwb (n := k) (c := c) (by omega) (by omega)) dX2_rows_102 lk_X2_82 im_X1_numberAt se_X1_numberAt cd_X1_numberAt (by decide) hwb.k vcX1 rfl (by decide) rfl (by first | decide | simp [Value.category]) ?_
                  rw [hj2a, hj2b]
                  refine x_lcmp dX2_rows_105 ?_
                  refine x_if_eq 120 dX2_rows_106 (by decide) (fun c106 => ?_) (fun c106 => ?_)
                  · have c106 : rDd J (R (x + 1) vj) (R (x + 1) aj) k c = false := by simpa [rDd] using cmp_eq.mp c106
                    have hq := ih2 (c + 1) (by omega)
                    simp only [cntP, ucw, c106, if_false, Nat.add_zero, Bool.false_eq_true] at hq
                    refine x_iinc dX2_rows_120 rfl rfl (by decide) rfl ?_
                    refine x_goto 82 dX2_rows_123 (by decide) ?_
                    exact x_eql (by show [_, _, _, _, _, _, Value.int _] = _; simp [nI_1]) hq
                  · have c106 : rDd J (R (x + 1) vj) (R (x + 1) aj) k c = true := by simpa [rDd] using fun z => c106 (cmp_eq.mpr z)
                    have hq := ih2 (c + 1) (by omega)
                    simp only [cntP, ucw, c106, if_true] at hq
                    refine x_aload_n dX2_rows_109 rfl ?_
                    refine x_getq dX2_rows_110 fl_X2_18 cwR.k cwR.r1 rfl ?_
                    refine x_iload dX2_rows_113 rfl ?_
                    refine x_iload dX2_rows_115 rfl ?_
                    refine x_eW (c_X0_addColumn l D cwR.wu (n := k) (c := c) (by omega)) dX2_rows_117 lk_X2_135 im_X0_addColumn se_X0_addColumn cd_X0_addColumn (by decide) cwR.wu.k vcX0 rfl (by decide) rfl (by first | decide | simp [Value.category]) ?_
                    refine x_eqh (I' := rsI I (x + 2) ((fL (rA J (R (x + 1) vj) (R (x + 1) aj)) (rC J (R (x + 1) vj) (R (x + 1) aj)) k).length + cntP (bt ((rA J (R (x + 1) vj) (R (x + 1) aj)) k)) 64 + (cntP (rDd J (R (x + 1) vj) (R (x + 1) aj) k) c + 1))) (J' := va_up (va_up J (x + 2 + 1) (pz (k + 1) (rA J (R (x + 1) vj) (R (x + 1) aj)) (J (x + 2 + 1)))) (x + 2 + 2) (va_up (pz k (rC J (R (x + 1) vj) (R (x + 1) aj)) (J (x + 2 + 2))) k (ucw (rDd J (R (x + 1) vj) (R (x + 1) aj) k) c ||| (1 : Int64) <<< ((nI c).toInt64 &&& 63)))) ?_ ?_ ?_
                    · exact rsI_add (f := 1)
                    · rw [va_up_self, va_up_up, va_up_up, va_up_self]
                    refine x_iinc dX2_rows_120 rfl rfl (by decide) rfl ?_
                    refine x_goto 82 dX2_rows_123 (by decide) ?_
                    exact x_eql (by show [_, _, _, _, _, _, Value.int _] = _; simp [nI_1]) hq
            refine x_iconst (v := (0)) dX2_rows_79 (by decide +kernel) ?_
            refine x_istore dX2_rows_80 (by decide) rfl ?_
            exact x_eql rfl (col 2 0 rfl)
      refine x_aload_n dX2_rows_35 rfl ?_
      refine x_getq dX2_rows_36 fl_X2_18 cwR.k cwR.r1 rfl ?_
      refine x_eW (c_X0_clear l D cwR.wu) dX2_rows_39 lk_X2_35 im_X0_clear se_X0_clear cd_X0_clear (by decide) cwR.wu.k vcX0 rfl (by decide) rfl (by first | decide | simp [Value.category]) ?_
      refine x_iconst (v := (0)) dX2_rows_42 (by decide +kernel) ?_
      refine x_istore dX2_rows_43 (by decide) rfl ?_
      refine x_eqh (I' := rsI I (x + 2) 0) (J' := rsJ J (x + 2) 0 (rA J (R (x + 1) vj) (R (x + 1) aj)) (rC J (R (x + 1) vj) (R (x + 1) aj))) rfl ?_ (x_eql rfl (loop nn 0 rfl))
      rw [clJ, rsJ, ← pz_0, ← pz_0]
    · have c19 := liv_n (fun z => hvv _ z.1.2) c19
      have hG : ¬ (pL R I x nv (nI vj) ∧ pL R I x nv qa) := fun z => c19 z.2
      refine x_iconst (v := (-1)) dX2_rows_22 (by decide +kernel) ?_
      exact x_zi dX2_rows_23 ⟨by rw [if_neg hG], rfl, rfl, by rw [if_neg hG], by rw [if_neg hG], by rw [if_neg hG], rfl⟩
