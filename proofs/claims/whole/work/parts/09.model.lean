/-! Small rules; numbers; the reference's cells -/
section
variable {l : Launch} {D : va_G} {X : State → Prop} {own nm : String} {cc : ByteArray} {nL d mc ms : Nat} {K0 : Nat → Nat} {sz0 : Nat} {Z : ZT} {pc : Nat} {L st : List Value} {K N : Nat → Nat} {R : Nat → Nat → Nat} {I : Nat → Nat → Int32} {J : Nat → Nat → Int64} {sz kc ks : Nat}
theorem x_getq {idx ci k r q : Nat} (hd : decode cc pc = .ok (.getfield idx, 3)) (f : xfl own idx ci k) (hK : K r = ci + 1) (hq : R r k = q) (hv : xr (R r k) = xf (R r) (I r) (xty ci k) k) (kk : XW l D X own nm cc nL d mc ms K0 sz0 Z (pc + 3) L (.ref q :: st) K N R I J sz kc ks) : XW l D X own nm cc nL d mc ms K0 sz0 Z pc L (.ref r :: st) K N R I J sz kc ks := by
  subst hq
  exact x_getr hd f hK hv kk
theorem x_zi {x : Int32} (hd : decode cc pc = .ok (.ireturn, 1)) (h : Z (some (.int x)) K N R I J sz) : XW l D X own nm cc nL d mc ms K0 sz0 Z pc L [.int x] K N R I J sz kc ks := x_ret (v := some (.int x)) hd h
theorem x_zl {x : Int64} (hd : decode cc pc = .ok (.lreturn, 1)) (h : Z (some (.long x)) K N R I J sz) : XW l D X own nm cc nL d mc ms K0 sz0 Z pc L [.long x] K N R I J sz kc ks := x_ret (v := some (.long x)) hd h
theorem x_za {x : Nat} (hd : decode cc pc = .ok (.areturn, 1)) (h : Z (some (.ref x)) K N R I J sz) : XW l D X own nm cc nL d mc ms K0 sz0 Z pc L [.ref x] K N R I J sz kc ks := x_ret (v := some (.ref x)) hd h
theorem x_zn (hd : decode cc pc = .ok (.return_, 1)) (h : Z none K N R I J sz) : XW l D X own nm cc nL d mc ms K0 sz0 Z pc L [] K N R I J sz kc ks := x_ret (v := none) hd h
theorem x_ri {x y : Int32} (hd : decode cc pc = .ok (.ireturn, 1)) (h : x = y) : XW l D X own nm cc nL d mc ms K0 sz0 (Zx (some (.int y)) K N R I J sz) pc L [.int x] K N R I J sz kc ks := x_zi hd ⟨by rw [h], rfl, rfl, rfl, rfl, rfl, rfl⟩
theorem x_rl {x y : Int64} (hd : decode cc pc = .ok (.lreturn, 1)) (h : x = y) : XW l D X own nm cc nL d mc ms K0 sz0 (Zx (some (.long y)) K N R I J sz) pc L [.long x] K N R I J sz kc ks := x_zl hd ⟨by rw [h], rfl, rfl, rfl, rfl, rfl, rfl⟩
theorem x_ra {x y : Nat} (hd : decode cc pc = .ok (.areturn, 1)) (h : x = y) : XW l D X own nm cc nL d mc ms K0 sz0 (Zx (some (.ref y)) K N R I J sz) pc L [.ref x] K N R I J sz kc ks := x_za hd ⟨by rw [h], rfl, rfl, rfl, rfl, rfl, rfl⟩
theorem x_rn (hd : decode cc pc = .ok (.return_, 1)) : XW l D X own nm cc nL d mc ms K0 sz0 (Zx none K N R I J sz) pc L [] K N R I J sz kc ks := x_zn hd ⟨rfl, rfl, rfl, rfl, rfl, rfl, rfl⟩
theorem x_eqh {I' : Nat → Nat → Int32} {J' : Nat → Nat → Int64} (hI : I = I') (hJ : J = J') (k : XW l D X own nm cc nL d mc ms K0 sz0 Z pc L st K N R I' J' sz kc ks) : XW l D X own nm cc nL d mc ms K0 sz0 Z pc L st K N R I J sz kc ks := by
  subst hI hJ; exact k
theorem x_eqs {st' : List Value} (h : st = st') (k : XW l D X own nm cc nL d mc ms K0 sz0 Z pc L st' K N R I J sz kc ks) : XW l D X own nm cc nL d mc ms K0 sz0 Z pc L st K N R I J sz kc ks := by
  subst h; exact k
theorem x_eql {L' : List Value} (h : L = L') (k : XW l D X own nm cc nL d mc ms K0 sz0 Z pc L' st K N R I J sz kc ks) : XW l D X own nm cc nL d mc ms K0 sz0 Z pc L st K N R I J sz kc ks := by
  subst h; exact k
theorem x_top {x y : Int32} (h : x = y) (k : XW l D X own nm cc nL d mc ms K0 sz0 Z pc L (.int y :: st) K N R I J sz kc ks) : XW l D X own nm cc nL d mc ms K0 sz0 Z pc L (.int x :: st) K N R I J sz kc ks := by
  subst h; exact k
theorem x_topl {x y : Int64} (h : x = y) (k : XW l D X own nm cc nL d mc ms K0 sz0 Z pc L (.long y :: st) K N R I J sz kc ks) : XW l D X own nm cc nL d mc ms K0 sz0 Z pc L (.long x :: st) K N R I J sz kc ks := by
  subst h; exact k
end
def bI (p : Prop) [Decidable p] : Int32 := if p then 1 else 0
theorem bI_t {p : Prop} [Decidable p] (h : p) : bI p = 1 := if_pos h
theorem bI_f {p : Prop} [Decidable p] (h : ¬ p) : bI p = 0 := if_neg h
theorem bI_01 {p : Prop} [Decidable p] : bI p = 0 ∨ bI p = 1 := by
  by_cases h : p
  · exact Or.inr (bI_t h)
  · exact Or.inl (bI_f h)
theorem bI_rt {p : Prop} [Decidable p] : xrt (some .boolean) (some (.int (bI p))) := by
  rcases bI_01 (p := p) with h | h <;> rw [h]
  · exact Or.inl rfl
  · exact Or.inr rfl
theorem bI_e0 {p : Prop} [Decidable p] : bI p = 0 ↔ ¬ p := by
  by_cases h : p
  · simp [bI, h]
  · simp [bI, h]
theorem bI_n0 {p : Prop} [Decidable p] : ¬ bI p = 0 ↔ p := by
  by_cases h : p
  · simp [bI, h]
  · simp [bI, h]
theorem bI_congr {p q : Prop} [Decidable p] [Decidable q] (h : p ↔ q) : bI p = bI q := by
  by_cases hp : p
  · rw [bI_t hp, bI_t (h.mp hp)]
  · rw [bI_f hp, bI_f (fun z => hp (h.mpr z))]
/-- a number below n, as an int -/
abbrev pN (n : Nat) (v : Int32) : Prop := ¬ v < 0 ∧ v.toNatClampNeg < n
theorem pIn_pN {v : Int32} {n : Nat} (hn : n ≤ 2147483647) : (¬ v < 0 ∧ ¬ nI n - 1 < v) ↔ pN n v := by
  rcases Nat.eq_zero_or_pos n with rfl | h0
  · constructor
    · rintro ⟨h1, h2⟩
      obtain ⟨j, hj, rfl⟩ := nI_of h1
      refine absurd ?_ h2
      rw [Int32.lt_iff_toInt_lt, nI_toInt hj]
      have : (nI 0 - 1).toInt = -1 := by decide +kernel
      omega
    · rintro ⟨-, z⟩; omega
  · obtain ⟨k, rfl⟩ : ∃ k, n = k + 1 := ⟨n - 1, by omega⟩
    rw [nI_pred]
    constructor
    · rintro ⟨h1, h2⟩
      refine ⟨h1, ?_⟩
      obtain ⟨j, hj, rfl⟩ := nI_of h1
      rw [nI_clamp hj]
      rcases Nat.lt_or_ge k j with q | q
      · exact absurd (nI_lt q hj) h2
      · omega
    · rintro ⟨h1, h2⟩
      refine ⟨h1, fun h3 => ?_⟩
      obtain ⟨j, hj, rfl⟩ := nI_of h1
      rw [nI_clamp hj] at h2
      exact absurd h3 (nI_nlt (by omega) (by omega))
theorem pN_ex {n : Nat} {v : Int32} (h : pN n v) : ∃ j, j < n ∧ v = nI j := by
  obtain ⟨j, hj, rfl⟩ := nI_of h.1
  have h2 := h.2
  rw [nI_clamp hj] at h2
  exact ⟨j, h2, rfl⟩
theorem pN_nI {n j : Nat} (hj : j ≤ 2147483647) : pN n (nI j) ↔ j < n := by
  constructor
  · intro h
    have h2 := h.2
    rw [nI_clamp (by omega)] at h2
    exact h2
  · intro h
    exact ⟨nI_pos (by omega), by rw [nI_clamp (by omega)]; exact h⟩
def MW (m : Nat) (K N : Nat → Nat) (R : Nat → Nat → Nat) : Prop := K m = 4 ∧ (R m 6 = m + 1 ∧ K (m + 1) = 11 ∧ N (m + 1) = 3840) ∧ (R m 7 = m + 2 ∧ K (m + 2) = 11 ∧ N (m + 2) = 7680) ∧ (R m 8 = m + 3 ∧ K (m + 3) = 10 ∧ N (m + 3) = 3840) ∧ (R m 9 = m + 4 ∧ K (m + 4) = 10 ∧ N (m + 4) = 60) ∧ (R m 10 = m + 5 ∧ K (m + 5) = 10 ∧ N (m + 5) = 60) ∧ (R m 11 = m + 6 ∧ K (m + 6) = 12 ∧ N (m + 6) = 60) ∧ (R m 14 = m + 7 ∧ K (m + 7) = 10 ∧ N (m + 7) = 4224) ∧ (R m 15 = m + 8 ∧ K (m + 8) = 10 ∧ N (m + 8) = 4224) ∧ (R m 16 = m + 9 ∧ K (m + 9) = 11 ∧ N (m + 9) = 4224) ∧ (R m 17 = m + 10 ∧ K (m + 10) = 11 ∧ N (m + 10) = 4224) ∧ (R m 19 = m + 11 ∧ K (m + 11) = 10 ∧ N (m + 11) = 4224) ∧ (R m 20 = m + 12 ∧ K (m + 12) = 10 ∧ N (m + 12) = 4224) ∧ (R m 21 = m + 13 ∧ K (m + 13) = 10 ∧ N (m + 13) = 64)
section
variable {m : Nat} {K N : Nat → Nat} {R : Nat → Nat → Nat}
theorem MW.k (h : MW m K N R) : K m = 3 + 1 := h.1
theorem MW.r6 (h : MW m K N R) : R m 6 = m + 1 := h.2.1.1
theorem MW.k6 (h : MW m K N R) : K (m + 1) = 11 := h.2.1.2.1
theorem MW.n6 (h : MW m K N R) : N (m + 1) = 3840 := h.2.1.2.2
theorem MW.r7 (h : MW m K N R) : R m 7 = m + 2 := h.2.2.1.1
theorem MW.k7 (h : MW m K N R) : K (m + 2) = 11 := h.2.2.1.2.1
theorem MW.n7 (h : MW m K N R) : N (m + 2) = 7680 := h.2.2.1.2.2
theorem MW.r8 (h : MW m K N R) : R m 8 = m + 3 := h.2.2.2.1.1
theorem MW.k8 (h : MW m K N R) : K (m + 3) = 10 := h.2.2.2.1.2.1
theorem MW.n8 (h : MW m K N R) : N (m + 3) = 3840 := h.2.2.2.1.2.2
theorem MW.r9 (h : MW m K N R) : R m 9 = m + 4 := h.2.2.2.2.1.1
theorem MW.k9 (h : MW m K N R) : K (m + 4) = 10 := h.2.2.2.2.1.2.1
theorem MW.n9 (h : MW m K N R) : N (m + 4) = 60 := h.2.2.2.2.1.2.2
theorem MW.r10 (h : MW m K N R) : R m 10 = m + 5 := h.2.2.2.2.2.1.1
theorem MW.k10 (h : MW m K N R) : K (m + 5) = 10 := h.2.2.2.2.2.1.2.1
theorem MW.n10 (h : MW m K N R) : N (m + 5) = 60 := h.2.2.2.2.2.1.2.2
theorem MW.r11 (h : MW m K N R) : R m 11 = m + 6 := h.2.2.2.2.2.2.1.1
theorem MW.k11 (h : MW m K N R) : K (m + 6) = 12 := h.2.2.2.2.2.2.1.2.1
theorem MW.n11 (h : MW m K N R) : N (m + 6) = 60 := h.2.2.2.2.2.2.1.2.2
theorem MW.r14 (h : MW m K N R) : R m 14 = m + 7 := h.2.2.2.2.2.2.2.1.1
theorem MW.k14 (h : MW m K N R) : K (m + 7) = 10 := h.2.2.2.2.2.2.2.1.2.1
theorem MW.n14 (h : MW m K N R) : N (m + 7) = 4224 := h.2.2.2.2.2.2.2.1.2.2
theorem MW.r15 (h : MW m K N R) : R m 15 = m + 8 := h.2.2.2.2.2.2.2.2.1.1
theorem MW.k15 (h : MW m K N R) : K (m + 8) = 10 := h.2.2.2.2.2.2.2.2.1.2.1
theorem MW.n15 (h : MW m K N R) : N (m + 8) = 4224 := h.2.2.2.2.2.2.2.2.1.2.2
theorem MW.r16 (h : MW m K N R) : R m 16 = m + 9 := h.2.2.2.2.2.2.2.2.2.1.1
theorem MW.k16 (h : MW m K N R) : K (m + 9) = 11 := h.2.2.2.2.2.2.2.2.2.1.2.1
theorem MW.n16 (h : MW m K N R) : N (m + 9) = 4224 := h.2.2.2.2.2.2.2.2.2.1.2.2
theorem MW.r17 (h : MW m K N R) : R m 17 = m + 10 := h.2.2.2.2.2.2.2.2.2.2.1.1
theorem MW.k17 (h : MW m K N R) : K (m + 10) = 11 := h.2.2.2.2.2.2.2.2.2.2.1.2.1
theorem MW.n17 (h : MW m K N R) : N (m + 10) = 4224 := h.2.2.2.2.2.2.2.2.2.2.1.2.2
theorem MW.r19 (h : MW m K N R) : R m 19 = m + 11 := h.2.2.2.2.2.2.2.2.2.2.2.1.1
theorem MW.k19 (h : MW m K N R) : K (m + 11) = 10 := h.2.2.2.2.2.2.2.2.2.2.2.1.2.1
theorem MW.n19 (h : MW m K N R) : N (m + 11) = 4224 := h.2.2.2.2.2.2.2.2.2.2.2.1.2.2
theorem MW.r20 (h : MW m K N R) : R m 20 = m + 12 := h.2.2.2.2.2.2.2.2.2.2.2.2.1.1
theorem MW.k20 (h : MW m K N R) : K (m + 12) = 10 := h.2.2.2.2.2.2.2.2.2.2.2.2.1.2.1
theorem MW.n20 (h : MW m K N R) : N (m + 12) = 4224 := h.2.2.2.2.2.2.2.2.2.2.2.2.1.2.2
theorem MW.r21 (h : MW m K N R) : R m 21 = m + 13 := h.2.2.2.2.2.2.2.2.2.2.2.2.2.1
theorem MW.k21 (h : MW m K N R) : K (m + 13) = 10 := h.2.2.2.2.2.2.2.2.2.2.2.2.2.2.1
theorem MW.n21 (h : MW m K N R) : N (m + 13) = 64 := h.2.2.2.2.2.2.2.2.2.2.2.2.2.2.2
end
set_option maxHeartbeats 4000000 in
theorem c_X3_isIn (l : Launch) (D : va_G) {K N : Nat → Nat} {R : Nat → Nat → Nat} {I : Nat → Nat → Int32} {J : Nat → Nat → Int64} {sz : Nat} (a b c : Int32) : XM l D yX3_isIn cX3_isIn 3 (some .boolean) 0 0 0 [.int a, .int b, .int c] K N R I J sz (Zx (some (.int (bI (¬ a < b ∧ ¬ c < a)))) K N R I J sz) := by
  refine XM.of (own := RX3) (nm := "isIn") (by decide +kernel) rfl rfl (by simp [xla, Value.category]) [.int a, .int b, .int c] rfl (Zx.rt bI_rt) ?_
  refine x_iload_n dX3_isIn_0 rfl ?_
  refine x_iload_n dX3_isIn_1 rfl ?_
  refine x_icmp_lt 14 dX3_isIn_2 (by decide) (fun c2 => ?_) (fun c2 => ?_)
  · refine x_iconst (v := (0)) dX3_isIn_14 (by decide +kernel) ?_
    exact x_ri dX3_isIn_15 (by simp [bI, *])
  · refine x_iload_n dX3_isIn_5 rfl ?_
    refine x_iload_n dX3_isIn_6 rfl ?_
    refine x_icmp_gt 14 dX3_isIn_7 (by decide) (fun c7 => ?_) (fun c7 => ?_)
    · refine x_iconst (v := (0)) dX3_isIn_14 (by decide +kernel) ?_
      exact x_ri dX3_isIn_15 (by simp [bI, *])
    · refine x_iconst (v := (1)) dX3_isIn_10 (by decide +kernel) ?_
      refine x_goto 15 dX3_isIn_11 (by decide) ?_
      exact x_ri dX3_isIn_15 (by simp [bI, *])
set_option maxHeartbeats 4000000 in
theorem c_X3_isNode (l : Launch) (D : va_G) {K N : Nat → Nat} {R : Nat → Nat → Nat} {I : Nat → Nat → Int32} {J : Nat → Nat → Int64} {sz : Nat} {m : Nat} (mw : MW m K N R) {n : Nat} (h0 : I m 0 = nI n) (hn : n ≤ 64) (v : Int32) : XM l D yX3_isNode cX3_isNode 2 (some .boolean) 1 0 0 [.ref m, .int v] K N R I J sz (Zx (some (.int (bI (pN n v)))) K N R I J sz) := by
  refine XM.of (own := RX3) (nm := "isNode") (by decide +kernel) rfl rfl (by simp [xla, Value.category]) [.ref m, .int v] rfl (Zx.rt bI_rt) ?_
  refine x_iload_n dX3_isNode_0 rfl ?_
  refine x_iconst (v := (0)) dX3_isNode_1 (by decide +kernel) ?_
  refine x_aload_n dX3_isNode_2 rfl ?_
  refine x_geti dX3_isNode_3 fl_X3_59 mw.k rfl ?_
  refine x_iconst (v := (1)) dX3_isNode_6 (by decide +kernel) ?_
  refine x_isub dX3_isNode_7 ?_
  refine x_eS (c_X3_isIn l D _ _ _) dX3_isNode_8 lk_X3_55 st_X3_isIn cd_X3_isIn rfl (by decide) rfl (by decide) ?_
  rw [h0]
  exact x_ri dX3_isNode_11 (bI_congr (pIn_pN (by omega)))
set_option maxHeartbeats 4000000 in
theorem c_X3_isVersion (l : Launch) (D : va_G) {K N : Nat → Nat} {R : Nat → Nat → Nat} {I : Nat → Nat → Int32} {J : Nat → Nat → Int64} {sz : Nat} {m : Nat} (mw : MW m K N R) {nv : Nat} (h4 : I m 4 = nI nv) (hv : nv ≤ 60) (v : Int32) : XM l D yX3_isVersion cX3_isVersion 2 (some .boolean) 1 0 0 [.ref m, .int v] K N R I J sz (Zx (some (.int (bI (pN nv v ∧ I (m + 6) v.toNatClampNeg = 0)))) K N R I J sz) := by
  refine XM.of (own := RX3) (nm := "isVersion") (by decide +kernel) rfl rfl (by simp [xla, Value.category]) [.ref m, .int v] rfl (Zx.rt bI_rt) ?_
  refine x_iload_n dX3_isVersion_0 rfl ?_
  refine x_iconst (v := (0)) dX3_isVersion_1 (by decide +kernel) ?_
  refine x_aload_n dX3_isVersion_2 rfl ?_
  refine x_geti dX3_isVersion_3 fl_X3_51 mw.k rfl ?_
  refine x_iconst (v := (1)) dX3_isVersion_6 (by decide +kernel) ?_
  refine x_isub dX3_isVersion_7 ?_
  refine x_eS (c_X3_isIn l D _ _ _) dX3_isVersion_8 lk_X3_55 st_X3_isIn cd_X3_isIn rfl (by decide) rfl (by decide) ?_
  rw [h4, bI_congr (pIn_pN (n := nv) (v := v) (by omega))]
  refine x_if_eq 27 dX3_isVersion_11 (by decide) (fun c11 => ?_) (fun c11 => ?_)
  · rw [bI_e0] at c11
    refine x_iconst (v := (0)) dX3_isVersion_27 (by decide +kernel) ?_
    exact x_ri dX3_isVersion_28 (by simp [bI, *])
  · rw [bI_n0] at c11
    obtain ⟨j, hj, rfl⟩ := pN_ex c11
    have hcl : (nI j).toNatClampNeg = j := nI_clamp (by omega)
    refine x_aload_n dX3_isVersion_14 rfl ?_
    refine x_getq dX3_isVersion_15 fl_X3_26 mw.k mw.r11 rfl ?_
    refine x_iload_n dX3_isVersion_18 rfl ?_
    refine x_zald _ dX3_isVersion_19 mw.k11 mw.n11 rfl (by omega) (by decide) ?_
    refine x_if_ne 27 dX3_isVersion_20 (by decide) (fun c20 => ?_) (fun c20 => ?_)
    · refine x_iconst (v := (0)) dX3_isVersion_27 (by decide +kernel) ?_
      exact x_ri dX3_isVersion_28 (by simp [bI, *])
    · refine x_iconst (v := (1)) dX3_isVersion_23 (by decide +kernel) ?_
      refine x_goto 28 dX3_isVersion_24 (by decide) ?_
      exact x_ri dX3_isVersion_28 (by simp [bI, *])
set_option maxHeartbeats 4000000 in
theorem c_X3_clock (l : Launch) (D : va_G) {K N : Nat → Nat} {R : Nat → Nat → Nat} {I : Nat → Nat → Int32} {J : Nat → Nat → Int64} {sz : Nat} {m : Nat} (mw : MW m K N R) (t : Int32) : XM l D yX3_clock cX3_clock 3 (some .int) 0 0 0 [.ref m, .int t] K N R I J sz (if t < I m 3 then Zx (some (.int (-1))) K N R I J sz else Zx (some (.int (I m 3))) K N R (va_up I m (va_up (I m) 3 t)) J sz) := by
  refine XM.of (own := RX3) (nm := "clock") (by decide +kernel) rfl rfl (by simp [xla, Value.category]) [.ref m, .int t, .null] rfl (by intro v K N R I J sz h; split at h <;> exact Zx.rt (ret := some .int) ⟨_, rfl⟩ _ _ _ _ _ _ _ h) ?_
  refine x_iload_n dX3_clock_0 rfl ?_
  refine x_aload_n dX3_clock_1 rfl ?_
  refine x_geti dX3_clock_2 fl_X3_69 mw.k rfl ?_
  refine x_icmp_ge 10 dX3_clock_5 (by decide) (fun c5 => ?_) (fun c5 => ?_)
  · rw [if_neg (Int32.not_lt.mpr c5)]
    refine x_aload_n dX3_clock_10 rfl ?_
    refine x_geti dX3_clock_11 fl_X3_69 mw.k rfl ?_
    refine x_istore_n dX3_clock_14 (by decide) rfl ?_
    refine x_aload_n dX3_clock_15 rfl ?_
    refine x_iload_n dX3_clock_16 rfl ?_
    refine x_puti dX3_clock_17 fl_X3_69 mw.k rfl (Or.inl rfl) ?_
    refine x_iload_n dX3_clock_20 rfl ?_
    exact x_ri dX3_clock_21 rfl
  · rw [if_pos (Int32.not_le.mp c5)]
    refine x_iconst (v := (-1)) dX3_clock_8 (by decide +kernel) ?_
    exact x_ri dX3_clock_9 rfl
