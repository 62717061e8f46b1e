/-! The reference's leaves -/
/-- a bit of a long -/
def bt (w : Int64) (t : Nat) : Bool := w.toBitVec.getLsbD t
def it (w : Int64) (t : Nat) : Int64 := if bt w t then 1 else 0
theorem amt63 : ∀ t, t < 64 → ((nI t).toInt64 &&& 63).toBitVec = BitVec.ofNat 64 t := by decide +kernel
theorem amt63u : ∀ t, t < 64 → ((nI t).toInt64.toUInt64 &&& Int64.toUInt64 63).toBitVec = BitVec.ofNat 64 t := by decide +kernel
theorem smod64 : ∀ t, t < 64 → ((BitVec.ofNat 64 t).smod 64).toNat = t := by decide +kernel
theorem and1 (x : BitVec 64) : x &&& 1#64 = if x.getLsbD 0 then 1#64 else 0#64 := by
  apply BitVec.eq_of_getLsbD_eq
  intro i hi
  rw [BitVec.getLsbD_and]
  cases i with
  | zero => cases h : x.getLsbD 0 <;> simp
  | succ i => cases h : x.getLsbD 0 <;> simp [BitVec.getLsbD_one]
theorem it_shr (w : Int64) {t : Nat} (ht : t < 64) : w >>> ((nI t).toInt64 &&& 63) &&& 1 = it w t := by
  apply Int64.toBitVec_inj.mp
  rw [Int64.toBitVec_and, Int64.toBitVec_shiftRight, amt63 t ht]
  show _ &&& 1#64 = _
  rw [and1]
  rw [show ((BitVec.ofNat 64 t).smod 64) = BitVec.ofNat 64 t from BitVec.eq_of_toNat_eq (by rw [smod64 t ht]; simp; omega)]
  rw [BitVec.sshiftRight_eq', BitVec.getLsbD_sshiftRight]
  simp only [BitVec.toNat_ofNat]
  rw [Nat.mod_eq_of_lt (show t < 2 ^ 64 by omega)]
  simp only [it, bt]
  have : ¬ 64 ≤ 0 := by omega
  simp [ht]
  split <;> rfl
def tN (c : Nat) : Int32 := if c < 64 then nI c else -1 - nI (c - 64)
theorem tN_a {c : Nat} (h : c < 64) : tN c = nI c := if_pos h
theorem tN_c {c : Nat} (h : c < 2) : tN (64 + c) = -1 - nI c := by rw [tN, if_neg (by omega), show 64 + c - 64 = c by omega]
/-- an item: of version v, node n, place c -/
def itm (J : Nat → Nat → Int64) (m v n c : Nat) : Int64 := if c < 64 then it (J (m + 1) (64 * v + n)) c else J (m + 2) (128 * v + 64 * (c - 64) + n)
def stA (w x : Int64) (t : Nat) : Int64 := w &&& ((1 : Int64) <<< ((nI t).toInt64 &&& 63) ^^^ (-1)) ||| x <<< ((nI t).toInt64 &&& 63)
def setm (J : Nat → Nat → Int64) (m v n c : Nat) (x : Int64) : Nat → Nat → Int64 := if c < 64 then va_up J (m + 1) (va_up (J (m + 1)) (64 * v + n) (stA (J (m + 1) (64 * v + n)) x c)) else va_up J (m + 2) (va_up (J (m + 2)) (128 * v + 64 * (c - 64) + n) x)
/-- the places of a node's items, in their order: n arcs, two columns -/
def cdp (n p : Nat) : Nat := if p < n then p else 64 + (p - n)
theorem blk_step {α : Type} (f : Nat → α) {sp dp k : Nat} : va_up (va_cpy f f sp dp k) (dp + k) (f (sp + k)) = va_cpy f f sp dp (k + 1) := by
  funext j
  by_cases hj : j = dp + k
  · subst hj
    rw [va_up_self, pk_cpy_in (by omega) (by omega)]
    congr 1; omega
  · rw [va_up_ne _ _ hj]
    by_cases h : dp ≤ j ∧ j < dp + k
    · rw [pk_cpy_in h.1 h.2, pk_cpy_in h.1 (by omega)]
    · rw [pk_cpy_out (by omega), pk_cpy_out (by omega)]
theorem blk_0 {α : Type} (f : Nat → α) {sp dp : Nat} : va_cpy f f sp dp 0 = f := by
  funext j
  exact pk_cpy_out (by omega)
set_option maxHeartbeats 4000000 in
theorem c_X3_itemA (l : Launch) (D : va_G) {K N : Nat → Nat} {R : Nat → Nat → Nat} {I : Nat → Nat → Int32} {J : Nat → Nat → Int64} {sz : Nat} {m : Nat} (mw : MW m K N R) {v n t : Nat} (hv : v < 60) (hn : n < 64) (ht : t < 64) : XM l D yX3_item cX3_item 4 (some .long) 0 0 0 [.ref m, .int (nI v), .int (nI n), .int (nI t)] K N R I J sz (Zx (some (.long (it (J (m + 1) (64 * v + n)) t))) K N R I J sz) := by
  refine XM.of (own := RX3) (nm := "item") (by decide +kernel) rfl rfl (by simp [xla, Value.category]) [.ref m, .int (nI v), .int (nI n), .int (nI t)] rfl (Zx.rt ⟨_, rfl⟩) ?_
  refine x_iload_n dX3_item_0 rfl ?_
  refine x_if_ge 26 dX3_item_1 (by decide) (fun c1 => ?_) (fun c1 => ?_)
  · refine x_aload_n dX3_item_26 rfl ?_
    refine x_getq dX3_item_27 fl_X3_7 mw.k mw.r6 rfl ?_
    refine x_bipush (v := (nI 64)) dX3_item_30 (by decide +kernel) ?_
    refine x_iload_n dX3_item_32 rfl ?_
    refine x_imul dX3_item_33 ?_
    refine x_iload_n dX3_item_34 rfl ?_
    refine x_iadd dX3_item_35 ?_
    refine x_lald (64 * v + n) dX3_item_36 mw.k6 mw.n6 (by rw [pk_mul, nI_add]) (by omega) (by decide) ?_
    refine x_iload_n dX3_item_37 rfl ?_
    refine x_lshr dX3_item_38 rfl ?_
    refine x_lconst (v := 1) dX3_item_39 (by decide +kernel) ?_
    refine x_land dX3_item_40 ?_
    exact x_rl dX3_item_41 (it_shr _ ht)
  · exact absurd (nI_pos' (by omega)) c1
set_option maxHeartbeats 4000000 in
theorem c_X3_itemC (l : Launch) (D : va_G) {K N : Nat → Nat} {R : Nat → Nat → Nat} {I : Nat → Nat → Int32} {J : Nat → Nat → Int64} {sz : Nat} {m : Nat} (mw : MW m K N R) {v n c : Nat} (hv : v < 60) (hn : n < 64) (hc : c < 2) : XM l D yX3_item cX3_item 4 (some .long) 0 0 0 [.ref m, .int (nI v), .int (nI n), .int (-1 - nI c)] K N R I J sz (Zx (some (.long (J (m + 2) (128 * v + 64 * c + n)))) K N R I J sz) := by
  refine XM.of (own := RX3) (nm := "item") (by decide +kernel) rfl rfl (by simp [xla, Value.category]) [.ref m, .int (nI v), .int (nI n), .int (-1 - nI c)] rfl (Zx.rt ⟨_, rfl⟩) ?_
  refine x_iload_n dX3_item_0 rfl ?_
  refine x_if_ge 26 dX3_item_1 (by decide) (fun c1 => ?_) (fun c1 => ?_)
  · rcases (show c = 0 ∨ c = 1 by omega) with rfl | rfl <;> exact absurd c1 (by decide +kernel)
  · refine x_aload_n dX3_item_4 rfl ?_
    refine x_getq dX3_item_5 fl_X3_13 mw.k mw.r7 rfl ?_
    refine x_sipush (v := (nI 128)) dX3_item_8 (by decide +kernel) ?_
    refine x_iload_n dX3_item_11 rfl ?_
    refine x_imul dX3_item_12 ?_
    refine x_bipush (v := (nI 64)) dX3_item_13 (by decide +kernel) ?_
    refine x_iconst (v := (-1)) dX3_item_15 (by decide +kernel) ?_
    refine x_iload_n dX3_item_16 rfl ?_
    refine x_isub dX3_item_17 ?_
    refine x_imul dX3_item_18 ?_
    refine x_iadd dX3_item_19 ?_
    refine x_iload_n dX3_item_20 rfl ?_
    refine x_iadd dX3_item_21 ?_
    refine x_lald (128 * v + 64 * c + n) dX3_item_22 mw.k7 mw.n7 (by rw [show (-1 : Int32) - (-1 - nI c) = nI c by rcases (show c = 0 ∨ c = 1 by omega) with rfl | rfl <;> decide +kernel, pk_mul, pk_mul, nI_add, nI_add]) (by omega) (by decide) ?_
    refine x_goto 41 dX3_item_23 (by decide) ?_
    exact x_rl dX3_item_41 rfl
theorem c_X3_item (l : Launch) (D : va_G) {K N : Nat → Nat} {R : Nat → Nat → Nat} {I : Nat → Nat → Int32} {J : Nat → Nat → Int64} {sz : Nat} {m : Nat} (mw : MW m K N R) {v n c : Nat} (hv : v < 60) (hn : n < 64) (hc : c < 66) : XM l D yX3_item cX3_item 4 (some .long) 0 0 0 [.ref m, .int (nI v), .int (nI n), .int (tN c)] K N R I J sz (Zx (some (.long (itm J m v n c))) K N R I J sz) := by
  by_cases h : c < 64
  · rw [tN_a h, itm, if_pos h]
    exact c_X3_itemA l D mw hv hn h
  · obtain ⟨e, rfl⟩ : ∃ e, c = 64 + e := ⟨c - 64, by omega⟩
    rw [tN_c (by omega), itm, if_neg h, show 64 + e - 64 = e by omega]
    exact c_X3_itemC l D mw hv hn (by omega)
set_option maxHeartbeats 4000000 in
theorem c_X3_setsA (l : Launch) (D : va_G) {K N : Nat → Nat} {R : Nat → Nat → Nat} {I : Nat → Nat → Int32} {J : Nat → Nat → Int64} {sz : Nat} {m : Nat} (mw : MW m K N R) {v n t : Nat} {x : Int64} (hv : v < 60) (hn : n < 64) (ht : t < 64) : XM l D yX3_sets cX3_sets 6 none 0 0 0 [.ref m, .int (nI v), .int (nI n), .int (nI t), .long x] K N R I J sz (Zx none K N R I (va_up J (m + 1) (va_up (J (m + 1)) (64 * v + n) (stA (J (m + 1) (64 * v + n)) x t))) sz) := by
  refine XM.of (own := RX3) (nm := "sets") (by decide +kernel) rfl rfl (by simp [xla, Value.category]) [.ref m, .int (nI v), .int (nI n), .int (nI t), .long x, .null] rfl (Zx.rt rfl) ?_
  refine x_iload_n dX3_sets_0 rfl ?_
  refine x_if_ge 28 dX3_sets_1 (by decide) (fun c1 => ?_) (fun c1 => ?_)
  · refine x_aload_n dX3_sets_28 rfl ?_
    refine x_getq dX3_sets_29 fl_X3_7 mw.k mw.r6 rfl ?_
    refine x_bipush (v := (nI 64)) dX3_sets_32 (by decide +kernel) ?_
    refine x_iload_n dX3_sets_34 rfl ?_
    refine x_imul dX3_sets_35 ?_
    refine x_iload_n dX3_sets_36 rfl ?_
    refine x_iadd dX3_sets_37 ?_
    refine x_aload_n dX3_sets_38 rfl ?_
    refine x_getq dX3_sets_39 fl_X3_7 mw.k mw.r6 rfl ?_
    refine x_bipush (v := (nI 64)) dX3_sets_42 (by decide +kernel) ?_
    refine x_iload_n dX3_sets_44 rfl ?_
    refine x_imul dX3_sets_45 ?_
    refine x_iload_n dX3_sets_46 rfl ?_
    refine x_iadd dX3_sets_47 ?_
    refine x_lald (64 * v + n) dX3_sets_48 mw.k6 mw.n6 (by rw [pk_mul, nI_add]) (by omega) (by decide) ?_
    refine x_lconst (v := 1) dX3_sets_49 (by decide +kernel) ?_
    refine x_iload_n dX3_sets_50 rfl ?_
    refine x_lshl dX3_sets_51 rfl ?_
    refine x_ldc2 dX3_sets_52 kl_X3_85 ?_
    refine x_lxor dX3_sets_55 ?_
    refine x_land dX3_sets_56 ?_
    refine x_lload dX3_sets_57 rfl ?_
    refine x_iload_n dX3_sets_59 rfl ?_
    refine x_lshl dX3_sets_60 rfl ?_
    refine x_lor dX3_sets_61 ?_
    refine x_last (64 * v + n) dX3_sets_62 mw.k6 mw.n6 (by rw [pk_mul, nI_add]) (by omega) (by decide) ?_
    exact x_rn dX3_sets_63
  · exact absurd (nI_pos' (by omega)) c1
set_option maxHeartbeats 4000000 in
theorem c_X3_setsC (l : Launch) (D : va_G) {K N : Nat → Nat} {R : Nat → Nat → Nat} {I : Nat → Nat → Int32} {J : Nat → Nat → Int64} {sz : Nat} {m : Nat} (mw : MW m K N R) {v n c : Nat} {x : Int64} (hv : v < 60) (hn : n < 64) (hc : c < 2) : XM l D yX3_sets cX3_sets 6 none 0 0 0 [.ref m, .int (nI v), .int (nI n), .int (-1 - nI c), .long x] K N R I J sz (Zx none K N R I (va_up J (m + 2) (va_up (J (m + 2)) (128 * v + 64 * c + n) x)) sz) := by
  refine XM.of (own := RX3) (nm := "sets") (by decide +kernel) rfl rfl (by simp [xla, Value.category]) [.ref m, .int (nI v), .int (nI n), .int (-1 - nI c), .long x, .null] rfl (Zx.rt rfl) ?_
  refine x_iload_n dX3_sets_0 rfl ?_
  refine x_if_ge 28 dX3_sets_1 (by decide) (fun c1 => ?_) (fun c1 => ?_)
  · rcases (show c = 0 ∨ c = 1 by omega) with rfl | rfl <;> exact absurd c1 (by decide +kernel)
  · refine x_aload_n dX3_sets_4 rfl ?_
    refine x_getq dX3_sets_5 fl_X3_13 mw.k mw.r7 rfl ?_
    refine x_sipush (v := (nI 128)) dX3_sets_8 (by decide +kernel) ?_
    refine x_iload_n dX3_sets_11 rfl ?_
    refine x_imul dX3_sets_12 ?_
    refine x_bipush (v := (nI 64)) dX3_sets_13 (by decide +kernel) ?_
    refine x_iconst (v := (-1)) dX3_sets_15 (by decide +kernel) ?_
    refine x_iload_n dX3_sets_16 rfl ?_
    refine x_isub dX3_sets_17 ?_
    refine x_imul dX3_sets_18 ?_
    refine x_iadd dX3_sets_19 ?_
    refine x_iload_n dX3_sets_20 rfl ?_
    refine x_iadd dX3_sets_21 ?_
    refine x_lload dX3_sets_22 rfl ?_
    refine x_last (128 * v + 64 * c + n) dX3_sets_24 mw.k7 mw.n7 (by rw [show (-1 : Int32) - (-1 - nI c) = nI c by rcases (show c = 0 ∨ c = 1 by omega) with rfl | rfl <;> decide +kernel, pk_mul, pk_mul, nI_add, nI_add]) (by omega) (by decide) ?_
    refine x_goto 63 dX3_sets_25 (by decide) ?_
    exact x_rn dX3_sets_63
theorem c_X3_sets (l : Launch) (D : va_G) {K N : Nat → Nat} {R : Nat → Nat → Nat} {I : Nat → Nat → Int32} {J : Nat → Nat → Int64} {sz : Nat} {m : Nat} (mw : MW m K N R) {v n c : Nat} {x : Int64} (hv : v < 60) (hn : n < 64) (hc : c < 66) : XM l D yX3_sets cX3_sets 6 none 0 0 0 [.ref m, .int (nI v), .int (nI n), .int (tN c), .long x] K N R I J sz (Zx none K N R I (setm J m v n c x) sz) := by
  by_cases h : c < 64
  · rw [tN_a h, setm, if_pos h]
    exact c_X3_setsA l D mw hv hn h
  · obtain ⟨e, rfl⟩ : ∃ e, c = 64 + e := ⟨c - 64, by omega⟩
    rw [tN_c (by omega), setm, if_neg h, show 64 + e - 64 = e by omega]
    exact c_X3_setsC l D mw hv hn (by omega)
set_option maxHeartbeats 4000000 in
theorem c_X3_following (l : Launch) (D : va_G) {K N : Nat → Nat} {R : Nat → Nat → Nat} {I : Nat → Nat → Int32} {J : Nat → Nat → Int64} {sz : Nat} {m : Nat} (mw : MW m K N R) {n p : Nat} (h0 : I m 0 = nI n) (hn0 : 0 < n) (hn : n ≤ 64) (hp : p < n + 2) : XM l D yX3_following cX3_following 2 (some .int) 0 0 0 [.ref m, .int (tN (cdp n p))] K N R I J sz (Zx (some (.int (tN (cdp n (p + 1))))) K N R I J sz) := by
  have hlow : p < n → tN (cdp n p) = nI p := fun h => by rw [cdp, if_pos h, tN_a (by omega)]
  have hm1 : tN (cdp n n) = -1 := by rw [cdp, if_neg (by omega), Nat.sub_self]; decide +kernel
  have hm2 : tN (cdp n (n + 1)) = -2 := by rw [cdp, if_neg (by omega), show n + 1 - n = 1 by omega]; decide +kernel
  have hm3 : tN (cdp n (n + 2)) = -3 := by rw [cdp, if_neg (by omega), show n + 2 - n = 2 by omega]; decide +kernel
  have hpre : I m 0 - 1 = nI (n - 1) := by rw [h0]; obtain ⟨k, rfl⟩ : ∃ k, n = k + 1 := ⟨n - 1, by omega⟩; exact nI_pred k
  have hneg1 : ¬ (-1 : Int32) = nI (n - 1) := fun z => absurd (nI_pos (n := n - 1) (by omega)) (by rw [← z]; decide)
  have hneg2 : ¬ (-2 : Int32) = nI (n - 1) := fun z => absurd (nI_pos (n := n - 1) (by omega)) (by rw [← z]; decide)
  refine XM.of (own := RX3) (nm := "following") (by decide +kernel) rfl rfl (by simp [xla, Value.category]) [.ref m, .int (tN (cdp n p))] rfl (Zx.rt ⟨_, rfl⟩) ?_
  refine x_iload_n dX3_following_0 rfl ?_
  refine x_aload_n dX3_following_1 rfl ?_
  refine x_geti dX3_following_2 fl_X3_59 mw.k rfl ?_
  refine x_iconst (v := (1)) dX3_following_5 (by decide +kernel) ?_
  refine x_isub dX3_following_6 ?_
  refine x_icmp_ne 14 dX3_following_7 (by decide) (fun c7 => ?_) (fun c7 => ?_)
  · rw [hpre] at c7
    refine x_iload_n dX3_following_14 rfl ?_
    refine x_if_ge 24 dX3_following_15 (by decide) (fun c15 => ?_) (fun c15 => ?_)
    · have hpl : p < n := by
        rcases Nat.lt_or_ge p n with q | q
        · exact q
        · rcases (show p = n ∨ p = n + 1 by omega) with rfl | rfl
          · rw [hm1] at c15; exact absurd c15 (by decide)
          · rw [hm2] at c15; exact absurd c15 (by decide)
      rw [hlow hpl] at c7 ⊢
      have hp1 : p + 1 < n := by
        rcases Nat.lt_or_ge (p + 1) n with q | q
        · exact q
        · exact absurd (by rw [show p = n - 1 by omega]) c7
      refine x_iload_n dX3_following_24 rfl ?_
      refine x_iconst (v := (1)) dX3_following_25 (by decide +kernel) ?_
      refine x_iadd dX3_following_26 ?_
      first
        | exact x_ri dX3_following_27 (by rw [hpn, hm1])
        | exact x_ri dX3_following_27 (by rw [nI_1, cdp, if_pos hp1, tN_a (by omega)])
        | exact x_ri dX3_following_27 (by rcases (show p = n ∨ p = n + 1 by omega) with rfl | rfl <;> first | (rw [hm1, hm2]; decide) | (rw [hm2, hm3]; decide))
    · have hpg : n ≤ p := by
        rcases Nat.lt_or_ge p n with q | q
        · rw [hlow q] at c15; exact absurd (nI_pos' (by omega)) c15
        · exact q
      refine x_iload_n dX3_following_18 rfl ?_
      refine x_iconst (v := (1)) dX3_following_19 (by decide +kernel) ?_
      refine x_isub dX3_following_20 ?_
      refine x_goto 27 dX3_following_21 (by decide) ?_
      first
        | exact x_ri dX3_following_27 (by rw [hpn, hm1])
        | exact x_ri dX3_following_27 (by rw [nI_1, cdp, if_pos hp1, tN_a (by omega)])
        | exact x_ri dX3_following_27 (by rcases (show p = n ∨ p = n + 1 by omega) with rfl | rfl <;> first | (rw [hm1, hm2]; decide) | (rw [hm2, hm3]; decide))
  · rw [hpre] at c7
    have hpn : p = n - 1 := by
      rcases Nat.lt_or_ge p n with q | q
      · rw [hlow q] at c7; exact (nI_eq (by omega) (by omega)).mp c7
      · rcases (show p = n ∨ p = n + 1 by omega) with rfl | rfl
        · rw [hm1] at c7; exact absurd c7 hneg1
        · rw [hm2] at c7; exact absurd c7 hneg2
    have hpn : p + 1 = n := by omega
    refine x_iconst (v := (-1)) dX3_following_10 (by decide +kernel) ?_
    refine x_goto 27 dX3_following_11 (by decide) ?_
    first
      | exact x_ri dX3_following_27 (by rw [hpn, hm1])
      | exact x_ri dX3_following_27 (by rw [nI_1, cdp, if_pos hp1, tN_a (by omega)])
      | exact x_ri dX3_following_27 (by rcases (show p = n ∨ p = n + 1 by omega) with rfl | rfl <;> first | (rw [hm1, hm2]; decide) | (rw [hm2, hm3]; decide))
set_option maxHeartbeats 4000000 in
theorem c_X3_made (l : Launch) (D : va_G) {K N : Nat → Nat} {R : Nat → Nat → Nat} {I : Nat → Nat → Int32} {J : Nat → Nat → Int64} {sz : Nat} {m : Nat} (mw : MW m K N R)  : XM l D yX3_made cX3_made 1 (some .int) 0 0 0 [.ref m] K N R I J sz (Zx (some (.int (I m 4))) K N R (va_up I m (va_up (I m) 4 (I m 4 + 1))) J sz) := by
  refine XM.of (own := RX3) (nm := "made") (by decide +kernel) rfl rfl (by simp [xla, Value.category]) [.ref m] rfl (Zx.rt ⟨_, rfl⟩) ?_
  refine x_aload_n dX3_made_0 rfl ?_
  refine x_dup dX3_made_1 rfl ?_
  refine x_geti dX3_made_2 fl_X3_51 mw.k rfl ?_
  refine x_iconst (v := (1)) dX3_made_5 (by decide +kernel) ?_
  refine x_iadd dX3_made_6 ?_
  refine x_puti dX3_made_7 fl_X3_51 mw.k rfl (Or.inl rfl) ?_
  refine x_aload_n dX3_made_10 rfl ?_
  refine x_geti dX3_made_11 fl_X3_51 mw.k rfl ?_
  refine x_iconst (v := (1)) dX3_made_14 (by decide +kernel) ?_
  refine x_isub dX3_made_15 ?_
  exact x_ri dX3_made_16 (by rw [va_up_self, va_up_self]; simp)
set_option maxHeartbeats 4000000 in
theorem c_X3_fresh (l : Launch) (D : va_G) {K N : Nat → Nat} {R : Nat → Nat → Nat} {I : Nat → Nat → Int32} {J : Nat → Nat → Int64} {sz : Nat} {m : Nat} (mw : MW m K N R) {nv k : Nat} (h4 : I m 4 = nI nv) (hv : nv < 60) (hk : k < 64) : XM l D yX3_fresh cX3_fresh 2 none 0 0 0 [.ref m, .int (nI k)] K N R I J sz (Zx none K N R (va_up (va_up I (m + 3) (va_up (I (m + 3)) (64 * nv + k) (I m 5))) m (va_up (I m) 5 (I m 5 + 1))) J sz) := by
  refine XM.of (own := RX3) (nm := "fresh") (by decide +kernel) rfl rfl (by simp [xla, Value.category]) [.ref m, .int (nI k)] rfl (Zx.rt rfl) ?_
  refine x_aload_n dX3_fresh_0 rfl ?_
  refine x_getq dX3_fresh_1 fl_X3_16 mw.k mw.r8 rfl ?_
  refine x_bipush (v := (nI 64)) dX3_fresh_4 (by decide +kernel) ?_
  refine x_aload_n dX3_fresh_6 rfl ?_
  refine x_geti dX3_fresh_7 fl_X3_51 mw.k rfl ?_
  refine x_imul dX3_fresh_10 ?_
  refine x_iload_n dX3_fresh_11 rfl ?_
  refine x_iadd dX3_fresh_12 ?_
  refine x_aload_n dX3_fresh_13 rfl ?_
  refine x_geti dX3_fresh_14 fl_X3_72 mw.k rfl ?_
  refine x_iast (64 * nv + k) dX3_fresh_17 mw.k8 mw.n8 (by rw [h4, pk_mul, nI_add]) (by omega) (by decide) ?_
  refine x_aload_n dX3_fresh_18 rfl ?_
  refine x_dup dX3_fresh_19 rfl ?_
  refine x_geti dX3_fresh_20 fl_X3_72 mw.k rfl ?_
  refine x_iconst (v := (1)) dX3_fresh_23 (by decide +kernel) ?_
  refine x_iadd dX3_fresh_24 ?_
  refine x_puti dX3_fresh_25 fl_X3_72 mw.k rfl (Or.inl rfl) ?_
  simp only [va_up_ne I _ (show m ≠ m + 3 by omega)]
  exact x_rn dX3_fresh_28
