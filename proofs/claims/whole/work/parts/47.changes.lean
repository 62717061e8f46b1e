/-! Both sides: put, take, set, graph -/
section
variable {x m : Nat} {K N K2 N2 : Nat → Nat} {R R2 R1 : Nat → Nat → Nat} {I I2 I1 Im Im2 X : Nat → Nat → Int32} {J J2 J1 Jm Jm2 : Nat → Nat → Int64} {nn s nc nv ce ce2 r sz sz2 : Nat} {A Cc : Nat → Int64} {Dd Dk : Nat → Int32} {par cev : Int32}
theorem Cp.sm (h : Cp x R I J m Im Jm nn s nc nv ce) : ∃ sm, Im m 1 = nI sm ∧ sm ≤ 64 ∧ (0 < nn → 0 < sm) ∧ (0 < nv → 0 < sm) ∧ (0 < nv → sm = s) := by
  rcases h.1.2.2.2 with ⟨h1, h2, h3⟩ | ⟨h1, h2, h3⟩
  · exact ⟨0, h3, by omega, by omega, by omega, by omega⟩
  · exact ⟨s, h3, h.1.1.2.2.1, fun _ => h.1.1.2.1, fun _ => h.1.1.2.1, fun _ => rfl⟩
theorem Cp.chk (h : Cp x R I J m Im Jm nn s nc nv ce) {n : Nat} (hn : n < nn) : n / s < nc := by
  have hs : 0 < s := h.1.1.2.1
  have e : nc = (nn + s - 1) / s := h.1.1.2.2.2.1
  rw [Nat.div_lt_iff_lt_mul hs, e]
  have d := Nat.div_add_mod (nn + s - 1) s
  have l := Nat.mod_lt (nn + s - 1) hs
  rw [Nat.mul_comm]
  omega
/-- one item is changed -/
theorem st_change (h : Cp x R I J m Im Jm nn s nc nv ce) (cw : CW x K N R) {v n c : Nat} {w : Int64} (hv : v < nv) (hl : Im (m + 6) v = 0) (hn : n < nn) (hc : c < 66) (hc2 : c < 64 → c < nn ∧ (w = 0 ∨ w = 1))
    (hN : NV x nv r A Cc (va_up (I (R (x + 1) v + 3)) (n / s) (I x 10)) (I (R (x + 1) v) 0) (I x 10 + 1) K N R I J sz K2 N2 R2 I2 J2 sz2) (hit : ∀ n' c', n' < 64 → c' < 66 → itF A Cc n' c' = if n' = n ∧ c' = c then w else itF (J (R (x + 1) v + 1)) (J (R (x + 1) v + 2)) n' c') :
    Cp x R2 I2 J2 m (mdI (frI (cpI2 Im m v nv) m nv (n / s)) m) (setm (cpJ Jm m v nv 64) m nv n c w) nn s nc (nv + 1) (ce + 1) := by
  have hnn : nn ≤ 64 := h.1.1.1
  have hncle := h.ncle
  have hk := h.chk hn
  have h5 := h.1.2.2.1.2.2.2.1
  have ms := (MS.cp (Im := Im) (m := m) (nv := nv) h5 hv).fr (k := n / s) (by omega)
  have e10 := h.1.2.1.2.2.2.2
  have fv := h.2.1 v hv
  have inew : ∀ n' c', n' < 64 → c' < 66 → itm (setm (cpJ Jm m v nv 64) m nv n c w) m nv n' c' = if n' = n ∧ c' = c then w else itm Jm m v n' c' := fun n' c' a b => by
    rw [setm_n (fun z => (hc2 z).2) a (by omega) b hc, cp_n hv a b]
  rw [fv.2.1.1, e10, nI_1] at hN
  refine h.new cw hN ms (fun v' n' c' a b d => ?_) ?_ ?_ rfl (fun k => k == n / s) ?_ (by omega) (fun n' c' a b => ?_) (fun n' c' a b d => ?_) (fun k hk1 => ?_) (fun k hk1 z => ?_) (fun k hk1 z => ?_) ⟨v, hv, rfl⟩
  · rw [setm_i a b (by omega) d hc]
    exact itm_cp2 hv a b d
  · rw [setm_o (by omega) (by omega), cpJ_o (by omega) (by omega)]
  · rw [setm_o (by omega) (by omega), cpJ_o (by omega) (by omega)]
  · rw [cnt_one, if_pos hk]
  · rw [hit n' c' a b, inew n' c' a b, fv.2.2.2 n' c' a b]
  · rw [inew n' c' a (by omega), if_neg (by rintro ⟨-, rfl⟩; have := hc2 d; omega)]
    exact (h.2.2.1 v hv).1 n' c' a b d
  · by_cases e : k = n / s
    · subst e; rw [va_up_self, va_up_self]
    · rw [va_up_ne _ _ e, va_up_ne _ _ e, h.kid hv hk1]
  · have e : k = n / s := by simpa using z
    subst e
    exact ⟨ce, by omega, by omega, va_up_self _ _ _⟩
  · have e : k ≠ n / s := by simpa using z
    exact ⟨v, hv, hl, va_up_ne _ _ e⟩
theorem st_same (h : Cp x R I J m Im Jm nn s nc nv ce) (cw : CW x K N R) {v : Nat} (hv : v < nv) (hl : Im (m + 6) v = 0)
    (hN : NV x nv r (J (R (x + 1) v + 1)) (J (R (x + 1) v + 2)) (I (R (x + 1) v + 3)) (I (R (x + 1) v) 0) (I x 10) K N R I J sz K2 N2 R2 I2 J2 sz2) :
    Cp x R2 I2 J2 m (mdI (cpI2 Im m v nv) m) (cpJ Jm m v nv 64) nn s nc (nv + 1) ce := by
  have ms := MS.cp (Im := Im) (m := m) (nv := nv) h.1.2.2.1.2.2.2.1 hv
  have fv := h.2.1 v hv
  rw [fv.2.1.1, h.1.2.1.2.2.2.2] at hN
  have c0 : ∀ n, cntP (fun _ => false) n = 0 := by
    intro n
    induction n with
    | zero => rfl
    | succ n ih => simp only [cntP, ih]; rfl
  refine h.new cw hN ms (fun v' n' c' a b d => itm_cp2 hv a b d) (cpJ_o (by omega) (by omega)) (cpJ_o (by omega) (by omega)) rfl (fun _ => false) ?_ (by omega) (fun n' c' a b => ?_) (fun n' c' a b d => ?_) (fun k hk1 => h.kid hv hk1) (fun k hk1 z => absurd z (by decide)) (fun k hk1 z => ⟨v, hv, hl, rfl⟩) ⟨v, hv, rfl⟩
  · rw [c0]; rfl
  · rw [cp_n hv a b]; exact fv.2.2.2 n' c' a b
  · rw [cp_n hv a (by omega)]; exact (h.2.2.1 v hv).1 n' c' a b d
theorem flip_it {A0 C0 : Nat → Int64} {a b : Nat} {t : Bool} (hb : b < 64) (ht : ¬ bt (A0 a) b = t) {n' c' : Nat} (hc : c' < 66) : itF (va_up A0 a (A0 a ^^^ (1 : Int64) <<< ((nI b).toInt64 &&& 63))) C0 n' c' = if n' = a ∧ c' = b then (if t then 1 else 0) else itF A0 C0 n' c' := by
  by_cases z : c' < 64
  · rw [itF_a z, itF_a z]
    by_cases e : n' = a
    · subst e
      rw [va_up_self]
      unfold it
      rw [bt_xor, bt_1 hb z]
      by_cases e2 : c' = b
      · subst e2
        rw [if_pos (show n' = n' ∧ c' = c' from ⟨rfl, rfl⟩), decide_eq_true rfl]
        cases q : bt (A0 n') c' <;> cases t <;> simp [q] at ht ⊢
      · rw [if_neg (show ¬ (n' = n' ∧ c' = b) from fun y => e2 y.2), decide_eq_false e2]
        cases bt (A0 n') c' <;> rfl
    · rw [va_up_ne _ _ e, if_neg (fun y => e y.1)]
  · rw [if_neg (fun y => by omega)]
    unfold itF
    rw [if_neg z, if_neg z]
theorem e_put (h : Cp x R I J m Im Jm nn s nc nv ce) (qv qa qb : Int32) (t : Bool) : (if pL R I x nv qv ∧ pN nn qa ∧ pN nn qb then (if bt (J (R (x + 1) qv.toNatClampNeg + 1) qa.toNatClampNeg) qb.toNatClampNeg = t then -2 else chA nv) else -1) = (if pV Im m nv qv ∧ pN nn qa ∧ pN nn qb then (if bt (Jm (m + 1) (64 * qv.toNatClampNeg + qa.toNatClampNeg)) qb.toNatClampNeg = t then -2 else chA nv) else -1) := by
  have hnn : nn ≤ 64 := h.1.1.1
  by_cases g : pV Im m nv qv ∧ pN nn qa ∧ pN nn qb
  · have g1 := g.1.1.2
    have g2 := g.2.1.2
    have g3 := g.2.2.2
    rw [if_pos ⟨(h.pl qv).mpr g.1, g.2⟩, if_pos g, h.arc g1 (by omega) (by omega)]
  · rw [if_neg (fun z => g ⟨(h.pl qv).mp z.1, z.2⟩), if_neg g]
/-- put and take, both sides behind the call -/
theorem st_put (h : Cp x R I J m Im Jm nn s nc nv ce) (cw : CW x K N R) {sm : Nat} (hsm : 0 < nv → sm = s) (qv qa qb : Int32) (t : Bool)
    (hc : if (pL R I x nv qv ∧ pN nn qa ∧ pN nn qb) ∧ ¬ bt (J (R (x + 1) qv.toNatClampNeg + 1) qa.toNatClampNeg) qb.toNatClampNeg = t ∧ nv < 60 then ∃ r : Nat, NV x nv r (va_up (J (R (x + 1) qv.toNatClampNeg + 1)) qa.toNatClampNeg (J (R (x + 1) qv.toNatClampNeg + 1) qa.toNatClampNeg ^^^ (1 : Int64) <<< (qb.toInt64 &&& 63))) (J (R (x + 1) qv.toNatClampNeg + 2)) (va_up (I (R (x + 1) qv.toNatClampNeg + 3)) (qa.toNatClampNeg / s) (I x 10)) (I (R (x + 1) qv.toNatClampNeg) 0) (I x 10 + 1) K N R I J sz K2 N2 R2 I2 J2 sz2 else Sm K N R I J sz K2 N2 R2 I2 J2 sz2) :
    ∃ nv2 ce2, Cp x R2 I2 J2 m (if pV Im m nv qv ∧ pN nn qa ∧ pN nn qb then (if bt (Jm (m + 1) (64 * qv.toNatClampNeg + qa.toNatClampNeg)) qb.toNatClampNeg = t then Im else chI Im m qv.toNatClampNeg nv (qa.toNatClampNeg / sm) true) else Im) (if pV Im m nv qv ∧ pN nn qa ∧ pN nn qb then (if bt (Jm (m + 1) (64 * qv.toNatClampNeg + qa.toNatClampNeg)) qb.toNatClampNeg = t then Jm else chJ Jm m qv.toNatClampNeg nv qa.toNatClampNeg qb.toNatClampNeg (if t then 1 else 0) true) else Jm) nn s nc nv2 ce2 := by
  have hnn : nn ≤ 64 := h.1.1.1
  have hnv := h.nvle
  by_cases g : pV Im m nv qv ∧ pN nn qa ∧ pN nn qb
  · have g1 := g.1.1.2
    have g2 := g.2.1.2
    have g3 := g.2.2.2
    rw [if_pos g, if_pos g]
    rw [h.arc g1 (by omega) (by omega)] at hc
    by_cases z : bt (Jm (m + 1) (64 * qv.toNatClampNeg + qa.toNatClampNeg)) qb.toNatClampNeg = t
    · rw [if_pos z, if_pos z]
      rw [if_neg (fun y => y.2.1 z)] at hc
      obtain ⟨-, -, rfl, rfl, rfl, -⟩ := hc
      exact ⟨nv, ce, h⟩
    · rw [if_neg z, if_neg z]
      by_cases n60 : nv = 60
      · rw [if_neg (fun y => by omega)] at hc
        obtain ⟨-, -, rfl, rfl, rfl, -⟩ := hc
        unfold chI chJ
        rw [if_pos n60, if_pos n60]
        exact ⟨nv, ce, h⟩
      · rw [if_pos ⟨⟨(h.pl qv).mpr g.1, g.2⟩, z, by omega⟩] at hc
        obtain ⟨r, hc⟩ := hc
        unfold chI chJ
        rw [if_neg n60, if_neg n60, if_pos rfl, if_pos rfl, hsm (by omega)]
        refine ⟨nv + 1, ce + 1, st_change h cw g1 g.1.2 g2 (by omega) (fun _ => ⟨g3, ?_⟩) hc (fun n' c' a b => ?_)⟩
        · cases t
          · left; rfl
          · right; rfl
        · obtain ⟨bj, hbj, rfl⟩ := pN_ex g.2.2
          rw [nI_clamp (by omega)]
          rw [nI_clamp (by omega), ← h.arc g1 (by omega) (by omega)] at z
          exact flip_it (by omega) z b
  · rw [if_neg g, if_neg g]
    rw [if_neg (fun y => g ⟨(h.pl qv).mp y.1.1, y.1.2⟩)] at hc
    obtain ⟨-, -, rfl, rfl, rfl, -⟩ := hc
    exact ⟨nv, ce, h⟩
theorem e_set (h : Cp x R I J m Im Jm nn s nc nv ce) (qv qa qb : Int32) : (if pL R I x nv qv ∧ (¬ qa < 0 ∧ ¬ 1 < qa) ∧ pN nn qb then chA nv else -1) = (if pV Im m nv qv ∧ (¬ qa < 0 ∧ ¬ 1 < qa) ∧ pN nn qb then chA nv else -1) := by
  by_cases g : pV Im m nv qv ∧ (¬ qa < 0 ∧ ¬ 1 < qa) ∧ pN nn qb
  · rw [if_pos ⟨(h.pl qv).mpr g.1, g.2⟩, if_pos g]
  · rw [if_neg (fun z => g ⟨(h.pl qv).mp z.1, z.2⟩), if_neg g]
theorem set_it {A0 C0 : Nat → Int64} {a b : Nat} {w : Int64} (ha : a < 2) {n' c' : Nat} (hc : c' < 66) : itF A0 (va_up C0 (b * 2 + a) w) n' c' = if n' = b ∧ c' = 64 + a then w else itF A0 C0 n' c' := by
  unfold itF
  by_cases z : c' < 64
  · rw [if_pos z, if_pos z, if_neg (fun y => by omega)]
  · rw [if_neg z, if_neg z]
    by_cases e : n' = b ∧ c' = 64 + a
    · rw [if_pos e, e.1, e.2, show 64 + a - 64 = a by omega, va_up_self]
    · rw [if_neg e, va_up_ne _ _ (by omega)]
theorem st_set (h : Cp x R I J m Im Jm nn s nc nv ce) (cw : CW x K N R) {sm : Nat} (hsm : 0 < nv → sm = s) (qv qa qb : Int32) (w : Int64)
    (hc : if (pL R I x nv qv ∧ (¬ qa < 0 ∧ ¬ 1 < qa) ∧ pN nn qb) ∧ nv < 60 then ∃ r : Nat, NV x nv r (J (R (x + 1) qv.toNatClampNeg + 1)) (if J (R (x + 1) qv.toNatClampNeg + 2) (qb.toNatClampNeg * 2 + qa.toNatClampNeg) ≠ w then va_up (J (R (x + 1) qv.toNatClampNeg + 2)) (qb.toNatClampNeg * 2 + qa.toNatClampNeg) w else J (R (x + 1) qv.toNatClampNeg + 2)) (if J (R (x + 1) qv.toNatClampNeg + 2) (qb.toNatClampNeg * 2 + qa.toNatClampNeg) ≠ w then va_up (I (R (x + 1) qv.toNatClampNeg + 3)) (qb.toNatClampNeg / s) (I x 10) else I (R (x + 1) qv.toNatClampNeg + 3)) (I (R (x + 1) qv.toNatClampNeg) 0) (if J (R (x + 1) qv.toNatClampNeg + 2) (qb.toNatClampNeg * 2 + qa.toNatClampNeg) ≠ w then I x 10 + 1 else I x 10) K N R I J sz K2 N2 R2 I2 J2 sz2 else Sm K N R I J sz K2 N2 R2 I2 J2 sz2) :
    ∃ nv2 ce2, Cp x R2 I2 J2 m (if pV Im m nv qv ∧ (¬ qa < 0 ∧ ¬ 1 < qa) ∧ pN nn qb then chI Im m qv.toNatClampNeg nv (qb.toNatClampNeg / sm) (Jm (m + 2) (128 * qv.toNatClampNeg + 64 * qa.toNatClampNeg + qb.toNatClampNeg) != w) else Im) (if pV Im m nv qv ∧ (¬ qa < 0 ∧ ¬ 1 < qa) ∧ pN nn qb then chJ Jm m qv.toNatClampNeg nv qb.toNatClampNeg (64 + qa.toNatClampNeg) w (Jm (m + 2) (128 * qv.toNatClampNeg + 64 * qa.toNatClampNeg + qb.toNatClampNeg) != w) else Jm) nn s nc nv2 ce2 := by
  have hnn : nn ≤ 64 := h.1.1.1
  have hnv := h.nvle
  by_cases g : pV Im m nv qv ∧ (¬ qa < 0 ∧ ¬ 1 < qa) ∧ pN nn qb
  · have g1 := g.1.1.2
    have g2 := c01 g.2.1
    have g3 := g.2.2.2
    rw [if_pos g, if_pos g]
    by_cases n60 : nv = 60
    · rw [if_neg (fun y => by omega)] at hc
      obtain ⟨-, -, rfl, rfl, rfl, -⟩ := hc
      unfold chI chJ
      rw [if_pos n60, if_pos n60]
      exact ⟨nv, ce, h⟩
    · rw [if_pos ⟨⟨(h.pl qv).mpr g.1, g.2⟩, by omega⟩] at hc
      obtain ⟨r, hc⟩ := hc
      unfold chI chJ
      rw [if_neg n60, if_neg n60]
      rw [h.col g1 (by omega) g2] at hc
      by_cases z : Jm (m + 2) (128 * qv.toNatClampNeg + 64 * qa.toNatClampNeg + qb.toNatClampNeg) = w
      · simp only [if_neg (show ¬ (Jm (m + 2) (128 * qv.toNatClampNeg + 64 * qa.toNatClampNeg + qb.toNatClampNeg) ≠ w) from fun y => y z)] at hc
        have z2 : (Jm (m + 2) (128 * qv.toNatClampNeg + 64 * qa.toNatClampNeg + qb.toNatClampNeg) != w) = false := by simp [z]
        rw [z2]
        simp only [Bool.false_eq_true, if_false]
        exact ⟨nv + 1, ce, st_same h cw g1 g.1.2 hc⟩
      · simp only [if_pos (show Jm (m + 2) (128 * qv.toNatClampNeg + 64 * qa.toNatClampNeg + qb.toNatClampNeg) ≠ w from z)] at hc
        have z2 : (Jm (m + 2) (128 * qv.toNatClampNeg + 64 * qa.toNatClampNeg + qb.toNatClampNeg) != w) = true := by simp [z]
        rw [z2, hsm (by omega)]
        simp only [if_true]
        exact ⟨nv + 1, ce + 1, st_change h cw g1 g.1.2 g3 (by omega) (fun y => by omega) hc (fun n' c' a b => set_it g2 b)⟩
  · rw [if_neg g, if_neg g]
    rw [if_neg (fun y => g ⟨(h.pl qv).mp y.1.1, y.1.2⟩)] at hc
    obtain ⟨-, -, rfl, rfl, rfl, -⟩ := hc
    exact ⟨nv, ce, h⟩
theorem st_graph (h : Cp x R I J m Im Jm nn s nc nv ce) (cw : CW x K N R) {a b : Nat} (ha : 1 ≤ a) (ha2 : a ≤ 64) (hb : 1 ≤ b) (hb2 : b ≤ 64) (hg : GR x a b (nch a b) R I J R1 I1 J1) (hn : NV x 0 r A Cc Dd (-99999999) (nI (nch a b)) K N R1 I1 J1 sz K2 N2 R2 I2 J2 sz2) (hD : ∀ k, k < nch a b → Dd k = nI k) (hA0 : R (x + 1) 0 = 0 → A = (fun _ => 0) ∧ Cc = (fun _ => 0)) (hA1 : R (x + 1) 0 ≠ 0 → A = J (R (x + 1) 0 + 1) ∧ Cc = J (R (x + 1) 0 + 2)) : Cp x R2 I2 J2 m (grI Im m a b) (glJ Jm m 64) a b (nch a b) 1 (nch a b) := by
  have hnc : nch a b ≤ 64 := by
    unfold nch
    rw [Nat.div_le_iff_le_mul_add_pred (by omega)]
    have : 64 ≤ b * 64 := Nat.le_mul_of_pos_left 64 (by omega)
    omega
  obtain ⟨G1, G2, G3, ⟨G5, G6, G7, G9, G11, G12⟩, ⟨GI2, GI5⟩, GJ, GK⟩ := hg
  have hge := hn.ge
  have hat := hn.at
  have hI2 : I2 x = va_up (va_up (I1 x) 8 (nI (0 + 1))) 10 (nI (nch a b)) := hn.2.2.2.2.1
  have kp := hn.2.2.2.2.2.1
  have kx : ∀ q, K q ≠ 0 → q ≠ x → q < x + 8 → I2 q = I1 q ∧ J2 q = J1 q := fun q a b c => kp q a b (by omega)
  have k2 := kx (x + 2) (by rw [cw.wu.k]; omega) (by omega) (by omega)
  have k3 := kx (x + 3) (by have := cw.wu.k1; simp only [Nat.add_assoc, Nat.reduceAdd] at this; omega) (by omega) (by omega)
  have k4 := kx (x + 4) (by have := cw.wu.k2; simp only [Nat.add_assoc, Nat.reduceAdd] at this; omega) (by omega) (by omega)
  have k5 := kx (x + 5) (by rw [cw.wc.k]; omega) (by omega) (by omega)
  have k6 := kx (x + 6) (by have := cw.wc.k1; simp only [Nat.add_assoc, Nat.reduceAdd] at this; omega) (by omega) (by omega)
  have k7 := kx (x + 7) (by have := cw.wc.k2; simp only [Nat.add_assoc, Nat.reduceAdd] at this; omega) (by omega) (by omega)
  have zA : (∀ n, n < 64 → A n = 0) ∧ (∀ n, n < 128 → Cc n = 0) := by
    by_cases z : R (x + 1) 0 = 0
    · rw [(hA0 z).1, (hA0 z).2]; exact ⟨fun _ _ => rfl, fun _ _ => rfl⟩
    · rw [(hA1 z).1, (hA1 z).2]; exact h.2.2.2.1 z
  obtain ⟨f0, f1, f2, f3⟩ := hn.2.2.2.2.2.2.1
  have nA := hn.2.2.2.2.2.2.2.1
  have nC := hn.2.2.2.2.2.2.2.2.1
  have nD := hn.2.2.2.2.2.2.2.2.2.1
  have m3 : ∀ i, i < 64 → grI Im m a b (m + 3) i = nI i := fun i hi => by
    have : grI Im m a b (m + 3) = fun i => if i < 64 then nI i else Im (m + 3) i := by simp [grI, va_up]
    rw [this]; simp [hi]
  have m4 : grI Im m a b (m + 4) 0 = -99999999 := by simp [grI, va_up]
  have m5 : grI Im m a b (m + 5) 0 = Im m 3 := by simp [grI, va_up]
  have m6 : grI Im m a b (m + 6) 0 = 0 := by simp [grI, va_up]
  have j1 : ∀ n, n < 64 → glJ Jm m 64 (m + 1) n = 0 := fun n hn => by
    have : glJ Jm m 64 (m + 1) = fun i => if i < 64 then 0 else Jm (m + 1) i := by simp [glJ, va_up]
    rw [this]; simp [hn]
  have j2 : ∀ n, n < 128 → glJ Jm m 64 (m + 2) n = 0 := fun n hn => by
    have : glJ Jm m 64 (m + 2) = fun i => if i < 64 ∨ (64 ≤ i ∧ i < 64 + 64) then 0 else Jm (m + 2) i := by simp [glJ, va_up]
    rw [this]; simp only; rw [if_pos (by omega)]
  have i0 : ∀ n c, n < 64 → c < 66 → itm (glJ Jm m 64) m 0 n c = 0 := fun n c h1 h2 => by
    unfold itm
    by_cases z : c < 64
    · rw [if_pos z, j1 _ (by omega), it_0, bt0]
    · rw [if_neg z, j2 _ (by omega)]
  have x12 : I2 x 12 = I x 12 := by rw [hI2, va_up_ne _ _ (by omega), va_up_ne _ _ (by omega), G12]
  have me := h.1.2.2.1.2.2.2.2
  refine ⟨⟨⟨ha2, by omega, hb2, rfl, by omega, by omega⟩, ?_, ?_, Or.inr ⟨by omega, by omega, by simp [grI, gF3, va_up]⟩⟩, fun v hv => ?_, fun v hv => ?_, ?_, ?_, ?_, ?_⟩
  · rw [hI2, va_up_ne _ _ (show (5 : Nat) ≠ 10 by omega), va_up_ne _ _ (show (5 : Nat) ≠ 8 by omega), va_up_ne _ _ (show (6 : Nat) ≠ 10 by omega), va_up_ne _ _ (show (6 : Nat) ≠ 8 by omega), va_up_ne _ _ (show (7 : Nat) ≠ 10 by omega), va_up_ne _ _ (show (7 : Nat) ≠ 8 by omega), va_up_ne _ _ (show (8 : Nat) ≠ 10 by omega), va_up_self, va_up_self]
    exact ⟨G5, G6, G7, rfl, rfl⟩
  · rw [x12]
    exact ⟨by simp [grI, gF3, va_up], by simp [grI, gF3, va_up], by simp [grI, va_up]; rfl, by simp [grI, va_up], by simp [grI, gF3, va_up]; exact me⟩
  · obtain rfl : v = 0 := by omega
    rw [hat, f0, f1, f2, f3, m4, m5, m6]
    refine ⟨hn.2.1, ⟨rfl, rfl, by rw [G12]; exact me.symm, rfl⟩, fun k hk => ?_, fun n c g1 g2 => ?_⟩
    · rw [nD k (by omega), hD k hk, m3 _ (by omega)]
      congr 1; omega
    · rw [i0 n c g1 g2]
      unfold itF
      by_cases z : c < 64
      · rw [if_pos z, nA n g1, zA.1 n g1, it_0, bt0]
      · rw [if_neg z, nC _ (by omega), zA.2 _ (by omega)]
  · obtain rfl : v = 0 := by omega
    exact ⟨fun n c h1 h2 h3 => i0 n c h1 (by omega), fun k hk => ⟨k, hk, by rw [m3 _ (by omega)]; congr 1; omega⟩, fun z => by omega⟩
  · intro _
    rw [hat]
    exact ⟨fun n hn => by rw [nA n hn]; exact zA.1 n hn, fun n hn => by rw [nC n hn]; exact zA.2 n hn⟩
  · refine ⟨0, 0, ?_, ?_, ?_, ?_⟩
    · rw [hI2, va_up_ne _ _ (by omega), va_up_ne _ _ (by omega), G9]; rfl
    · unfold lfN; simp [cntP, m6]
    · rw [hI2, va_up_ne _ _ (by omega), va_up_ne _ _ (by omega), G11]; rfl
    · simp only [hN, hR, m6, if_true]
      have : ∀ n, cntP (fun k => fsB (grI Im m a b) m 0 k) n = n := by
        intro n
        induction n with
        | zero => rfl
        | succ n ih => simp only [cntP, ih]; rfl
      rw [this]
      omega
  · left
    rw [k2.1, k3.2, k4.2, hn.2.2.2.1]
    exact ⟨by simp [grI, va_up], G2, G3, by simp [grI, va_up], GI2, fun n hn => ⟨(GJ n hn).1, (GJ n hn).2.1⟩⟩
  · refine ⟨[], by simp, fun i q z => by simp at z, ?_, ?_, ?_⟩
    · rw [k6.2, k7.2]; exact fL_z fun n hn => ⟨(GJ n hn).2.2.1, (GJ n hn).2.2.2⟩
    · rw [k5.1]; exact GI5
    · simp [grI, va_up]; rfl
end
