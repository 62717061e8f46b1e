/-! Both sides: turn, behind the call -/
def rN (L : List (Nat × Nat)) : Nat → Nat := fun i => (L[i]?.getD (0, 0)).1
def rK (L : List (Nat × Nat)) : Nat → Nat := fun i => (L[i]?.getD (0, 0)).2
theorem rN_at {L : List (Nat × Nat)} {i : Nat} {q : Nat × Nat} (h : L[i]? = some q) : rN L i = q.1 ∧ rK L i = q.2 := by
  unfold rN rK; rw [h]; exact ⟨rfl, rfl⟩
theorem L_get {L : List (Nat × Nat)} {i : Nat} (h : i < L.length) : ∃ q, L[i]? = some q := ⟨_, List.getElem?_eq_getElem h⟩
section
variable {x m : Nat} {K N K2 N2 : Nat → Nat} {R R2 : Nat → Nat → Nat} {I I2 Im X : Nat → Nat → Int32} {J J2 Jm : Nat → Nat → Int64} {nn s nc nv ce ce2 sz sz2 r ca cb v : Nat}
theorem row_ne {i : Nat} {q : Nat × Nat} (hnn : nn ≤ 64) (h : (rowL Jm m nn ca cb)[i]? = some q) : itm Jm m ca q.1 q.2 ≠ itm Jm m cb q.1 q.2 := by
  obtain ⟨-, -, p, -, e, u⟩ := nod_mem hnn h
  unfold uR at u
  rw [← e] at u
  simpa using u
theorem Cp.row_in (h : Cp x R I J m Im Jm nn s nc nv ce) (ha : ca < nv) (hb : cb < nv) {n c : Nat} (hn : n < nn) (hc : c < 66) (hne : itm Jm m ca n c ≠ itm Jm m cb n c) : ∃ i : Nat, (rowL Jm m nn ca cb)[i]? = some (n, c) := by
  have hnn : nn ≤ 64 := h.1.1.1
  obtain ⟨p, hp, e⟩ : ∃ p, p < nn + 2 ∧ cdp nn p = c := by
    by_cases z : c < 64
    · by_cases y : c < nn
      · exact ⟨c, by omega, by rw [cdp, if_pos y]⟩
      · exact absurd (((h.2.2.1 ca ha).1 n c (by omega) (by omega) z).trans ((h.2.2.1 cb hb).1 n c (by omega) (by omega) z).symm) hne
    · exact ⟨nn + (c - 64), by omega, by rw [cdp, if_neg (by omega)]; omega⟩
  have := mem_nod (u := uR Jm m nn ca cb) (nn := nn) hn hp (by unfold uR; rw [e]; simpa using hne)
  rw [e] at this
  exact this
theorem it3 {a b c : Nat} {n k : Nat} (hk : k < 64) (h1 : itm Jm m a n k ≠ itm Jm m b n k) (h2 : itm Jm m c n k ≠ itm Jm m a n k) : itm Jm m c n k = itm Jm m b n k := by
  rw [itm_a hk, itm_a hk, ne_eq, it_inj] at h1
  rw [itm_a hk, itm_a hk, ne_eq, it_inj] at h2
  rw [itm_a hk, itm_a hk, it_inj]
  cases q1 : bt (Jm (m + 1) (64 * a + n)) k <;> cases q2 : bt (Jm (m + 1) (64 * b + n)) k <;> cases q3 : bt (Jm (m + 1) (64 * c + n)) k <;> simp [q1, q2, q3] at h1 h2 ⊢
theorem itm_k {v n c : Nat} : itm Jm m v n (64 + c) = Jm (m + 2) (128 * v + 64 * c + n) := by rw [itm, if_neg (by omega), show 64 + c - 64 = c by omega]
theorem Cp.colk (h : Cp x R I J m Im Jm nn s nc nv ce) {v n c : Nat} (hv : v < nv) (hn : n < 64) (hc : c < 2) : J (R (x + 1) v + 2) (n * 2 + c) = itm Jm m v n (64 + c) := by rw [h.col hv hn hc, itm_k]
theorem e_okR (h : Cp x R I J m Im Jm nn s nc nv ce) (hv : v < nv) (ha : ca < nv) (hb : cb < nv) (g6 : ∀ (i : Nat) (q : Nat × Nat), (rowL Jm m nn ca cb)[i]? = some q → Im (m + 7) i = nI q.1 ∧ Im (m + 8) i = tN q.2 ∧ Jm (m + 9) i = itm Jm m ca q.1 q.2 ∧ Jm (m + 10) i = itm Jm m cb q.1 q.2) : anyP (ctB J (R (x + 1) v) (R (x + 1) ca) (R (x + 1) cb)) (nn * 2) = anyP (fun k => !okR Jm m v (rN (rowL Jm m nn ca cb)) (rK (rowL Jm m nn ca cb)) k) (rowL Jm m nn ca cb).length := by
  have hnn : nn ≤ 64 := h.1.1.1
  rw [Bool.eq_iff_iff, anyP_iff, anyP_iff]
  constructor
  · rintro ⟨i, hi, e⟩
    obtain ⟨n, c, hn, hc, rfl⟩ : ∃ n c, n < nn ∧ c < 2 ∧ i = n * 2 + c := ⟨i / 2, i % 2, by omega, by omega, by omega⟩
    unfold ctB at e
    rw [h.colk ha (by omega) hc, h.colk hb (by omega) hc, h.colk hv (by omega) hc] at e
    rw [Bool.and_eq_true, Bool.and_eq_true] at e
    obtain ⟨e1, e2, e3⟩ := e
    have e1 : itm Jm m ca n (64 + c) ≠ itm Jm m cb n (64 + c) := by simpa using e1
    have e2 : itm Jm m v n (64 + c) ≠ itm Jm m ca n (64 + c) := by simpa using e2
    have e3 : itm Jm m v n (64 + c) ≠ itm Jm m cb n (64 + c) := by simpa using e3
    obtain ⟨k, hk⟩ := h.row_in ha hb hn (by omega) e1
    obtain ⟨l1, -⟩ := List.getElem?_eq_some_iff.mp hk
    refine ⟨k, l1, ?_⟩
    unfold okR
    rw [(rN_at hk).1, (rN_at hk).2, (g6 k _ hk).2.2.1, (g6 k _ hk).2.2.2]
    simp [e2, e3]
  · rintro ⟨k, hk, e⟩
    obtain ⟨q, hq⟩ := L_get hk
    unfold okR at e
    rw [(rN_at hq).1, (rN_at hq).2, (g6 k _ hq).2.2.1, (g6 k _ hq).2.2.2] at e
    have ql := row_lt hnn hq
    have qn := row_ne hnn hq
    have e2 : itm Jm m v q.1 q.2 ≠ itm Jm m ca q.1 q.2 ∧ itm Jm m v q.1 q.2 ≠ itm Jm m cb q.1 q.2 := by
      constructor
      · intro z; rw [z] at e; simp at e
      · intro z; rw [z] at e; simp at e
    by_cases z : q.2 < 64
    · exact absurd (it3 z qn e2.1) e2.2
    · obtain ⟨c, hc, ec⟩ : ∃ c, c < 2 ∧ q.2 = 64 + c := ⟨q.2 - 64, by omega, by omega⟩
      rw [ec] at qn e2
      refine ⟨q.1 * 2 + c, by omega, ?_⟩
      unfold ctB
      rw [h.colk ha (by omega) hc, h.colk hb (by omega) hc, h.colk hv (by omega) hc]
      simp [qn, e2.1, e2.2]
theorem tiW_bt {w u b : Int64} {t : Nat} (ht : t < 64) : bt (tiW w u b) t = if bt u t = true then bt b t else bt w t := by
  unfold tiW
  rw [bt_or, bt_and, bt_and, bt_xor, bt_m1 ht]
  cases bt u t <;> simp
theorem ti_items (h : Cp x R I J m Im Jm nn s nc nv ce) (hv : v < nv) (ha : ca < nv) (hb : cb < nv) (g7 : ∀ n, n < nn → J (x + 3) n = J (R (x + 1) ca + 1) n ^^^ J (R (x + 1) cb + 1) n ∧ J (x + 4) n = rC J (R (x + 1) ca) (R (x + 1) cb) n) {n c : Nat} (hn : n < 64) (hc : c < 66) : itF (tiA (J (R (x + 1) v + 1)) (J (x + 3)) (J (R (x + 1) cb + 1)) nn) (tiC (J (R (x + 1) v + 2)) (J (x + 4)) (J (R (x + 1) cb + 2)) (nn * 2)) n c = if n < nn ∧ itm Jm m ca n c ≠ itm Jm m cb n c then itm Jm m cb n c else itm Jm m v n c := by
  by_cases z : c < 64
  · rw [itF_a z, tiA]
    by_cases y : n < nn
    · rw [if_pos y]
      by_cases w : bt (Jm (m + 1) (64 * ca + n)) c = bt (Jm (m + 1) (64 * cb + n)) c
      · rw [if_neg (fun q => q.2 (by rw [itm_a z, itm_a z, it_inj]; exact w)), itm_a z, it_inj, tiW_bt z, (g7 n y).1, bt_xor, h.arc ha hn z, h.arc hb hn z, h.arc hv hn z, w]
        simp
      · rw [if_pos ⟨y, fun q => w (by rw [itm_a z, itm_a z, it_inj] at q; exact q)⟩, itm_a z, it_inj, tiW_bt z, (g7 n y).1, bt_xor, h.arc ha hn z, h.arc hb hn z, h.arc hv hn z, if_pos (by simpa using w)]
    · rw [if_neg y, if_neg (fun q => y q.1), itm_a z]
      unfold it
      rw [h.arc hv hn z]
  · obtain ⟨j, hj, rfl⟩ : ∃ j, j < 2 ∧ c = 64 + j := ⟨c - 64, by omega, by omega⟩
    rw [itF_c, tiC, show (n * 2 + j) / 2 = n by omega, show (n * 2 + j) % 2 = j by omega]
    by_cases y : n < nn
    · rw [(g7 n y).2, rC, ucw_bt _ (by omega), decide_eq_true hj, Bool.true_and, rDd, h.colk ha hn hj, h.colk hb hn hj, h.colk hv hn hj]
      by_cases w : itm Jm m ca n (64 + j) = itm Jm m cb n (64 + j)
      · rw [if_neg (by simp [w]), if_neg (fun q => q.2 w)]
      · rw [if_pos ⟨by omega, by simpa using w⟩, if_pos ⟨y, w⟩]
    · rw [if_neg (fun q => by omega), if_neg (fun q => y q.1), h.col hv hn hj, itm_k]
theorem st_turn (h : Cp x R I J m Im Jm nn s nc nv ce) (cw : CW x K N R) (hv : v < nv) (hl : Im (m + 6) v = 0) (ha : ca < nv) (hb : cb < nv) (g6 : ∀ (i : Nat) (q : Nat × Nat), (rowL Jm m nn ca cb)[i]? = some q → Im (m + 7) i = nI q.1 ∧ Im (m + 8) i = tN q.2 ∧ Jm (m + 9) i = itm Jm m ca q.1 q.2 ∧ Jm (m + 10) i = itm Jm m cb q.1 q.2)
    (g7 : ∀ n, n < nn → J (x + 3) n = J (R (x + 1) ca + 1) n ^^^ J (R (x + 1) cb + 1) n ∧ J (x + 4) n = rC J (R (x + 1) ca) (R (x + 1) cb) n) {A Cc : Nat → Int64} (hA : A = tiA (J (R (x + 1) v + 1)) (J (x + 3)) (J (R (x + 1) cb + 1)) nn) (hC : Cc = tiC (J (R (x + 1) v + 2)) (J (x + 4)) (J (R (x + 1) cb + 2)) (nn * 2))
    (hN : NV x nv r A Cc (tnD (I (R (x + 1) v + 3)) (I x 10) (neK A Cc (J (R (x + 1) v + 1)) (J (R (x + 1) v + 2)) s nn) nc) (I (R (x + 1) v) 0) (I x 10 + nI (cntP (neK A Cc (J (R (x + 1) v + 1)) (J (R (x + 1) v + 2)) s nn) nc)) K N R I J sz K2 N2 R2 I2 J2 sz2) :
    ∃ ce2, Cp x R2 I2 J2 m (mdI (tnI Im Jm m v nv s (rN (rowL Jm m nn ca cb)) (rK (rowL Jm m nn ca cb)) (rowL Jm m nn ca cb).length) m) (tnJ Jm m v nv (rN (rowL Jm m nn ca cb)) (rK (rowL Jm m nn ca cb)) (rowL Jm m nn ca cb).length) nn s nc (nv + 1) ce2 := by
  have hnn : nn ≤ 64 := h.1.1.1
  have hncle := h.ncle
  have hs : 0 < s := h.1.1.2.1
  have fv := h.2.1 v hv
  have e10 := h.1.2.1.2.2.2.2
  obtain ⟨L, eL⟩ : ∃ L, L = rowL Jm m nn ca cb := ⟨_, rfl⟩
  rw [← eL]
  have gq : ∀ k, k < L.length → rN L k < nn ∧ rK L k < 66 ∧ Jm (m + 10) k = itm Jm m cb (rN L k) (rK L k) ∧ itm Jm m ca (rN L k) (rK L k) ≠ itm Jm m cb (rN L k) (rK L k) := by
    intro k hk
    obtain ⟨q, hq⟩ := L_get hk
    have e := rN_at hq
    rw [eL] at hq
    have ql := row_lt hnn hq
    rw [e.1, e.2]
    exact ⟨ql.1, ql.2, (g6 k q hq).2.2.2, row_ne hnn hq⟩
  have hin : ∀ n c, n < 64 → c < 66 → ((∃ j, j < L.length ∧ rN L j = n ∧ rK L j = c) ↔ (n < nn ∧ itm Jm m ca n c ≠ itm Jm m cb n c)) := by
    intro n c hn hc
    constructor
    · rintro ⟨j, j1, rfl, rfl⟩
      exact ⟨(gq j j1).1, (gq j j1).2.2.2⟩
    · rintro ⟨a, b⟩
      obtain ⟨i, hi⟩ := h.row_in ha hb a hc b
      rw [← eL] at hi
      obtain ⟨l1, -⟩ := List.getElem?_eq_some_iff.mp hi
      exact ⟨i, l1, rN_at hi⟩
  have ids := (tn_ids (Im := Im) (Jm := Jm) (m := m) (nv := nv) (ce := ce) (nc := nc) (s := s) (v := v) (rm := L.length) (nd := rN L) (cd := rK L) hv h.1.2.2.1.2.2.2.1 hncle (fun k hk => h.chk (gq k hk).1) (fun i k hik hk => by
    obtain ⟨q, hq⟩ := L_get (show i < L.length by omega)
    obtain ⟨q', hq'⟩ := L_get hk
    rw [(rN_at hq).1, (rN_at hq').1]
    rw [eL] at hq hq'
    exact row_sorted hq hq' hik) L.length (Nat.le_refl _)).1
  have items := tn_items (Jm := Jm) (m := m) (nv := nv) (v := v) (rm := L.length) (nd := rN L) (cd := rK L) (cb := cb) hv (fun k hk => ⟨by have := (gq k hk).1; omega, (gq k hk).2.1, (gq k hk).2.2.1⟩) L.length (Nat.le_refl _)
  have inew : ∀ n c, n < 64 → c < 66 → itm (tnJ Jm m v nv (rN L) (rK L) L.length) m nv n c = if n < nn ∧ itm Jm m ca n c ≠ itm Jm m cb n c then itm Jm m cb n c else itm Jm m v n c := by
    intro n c hn hc
    rw [items n c hn hc]
    simp only [hin n c hn hc]
  have hne : ∀ j, j < nc → neK A Cc (J (R (x + 1) v + 1)) (J (R (x + 1) v + 2)) s nn j = tnF Jm m v s (rN L) (rK L) L.length j := by
    intro j hj
    rw [Bool.eq_iff_iff, neK_iff hs]
    unfold tnF
    rw [anyP_iff, hA, hC]
    constructor
    · rintro ⟨n, h1, h2, c, h3, h4⟩
      rw [ti_items h hv ha hb g7 (by omega) h3, fv.2.2.2 n c (by omega) h3] at h4
      by_cases z : n < nn ∧ itm Jm m ca n c ≠ itm Jm m cb n c
      · rw [if_pos z] at h4
        obtain ⟨i, i1, i2, i3⟩ := (hin n c (by omega) h3).mpr z
        refine ⟨i, i1, ?_⟩
        rw [(gq i i1).2.2.1, i2, i3, h2]
        simp
        exact fun y => h4 y.symm
      · rw [if_neg z] at h4; exact absurd rfl h4
    · rintro ⟨i, i1, e⟩
      rw [Bool.and_eq_true, (gq i i1).2.2.1] at e
      have e1 : itm Jm m v (rN L i) (rK L i) ≠ itm Jm m cb (rN L i) (rK L i) := by simpa using e.1
      have gi := gq i i1
      refine ⟨rN L i, gi.1, eq_of_beq e.2, rK L i, gi.2.1, ?_⟩
      rw [ti_items h hv ha hb g7 (by omega) gi.2.1, fv.2.2.2 _ _ (by omega) gi.2.1, if_pos ⟨gi.1, gi.2.2.2⟩]
      exact fun y => e1 y.symm
  have hcn : ∀ k, k ≤ nc → cntP (neK A Cc (J (R (x + 1) v + 1)) (J (R (x + 1) v + 2)) s nn) k = cntP (tnF Jm m v s (rN L) (rK L) L.length) k := fun k hk => cntP_congr fun i hi => hne i (by omega)
  rw [fv.2.1.1, e10, hcn nc (Nat.le_refl _), nI_add] at hN
  refine ⟨_, h.new cw hN ids (fun w n c a b d => ?_) (tnJ_o (by omega) (by omega)) (tnJ_o (by omega) (by omega)) rfl (tnF Jm m v s (rN L) (rK L) L.length) rfl (by omega) (fun n c a b => ?_) (fun n c a b d => ?_) (fun k hk => ?_) (fun k hk z => ?_) (fun k hk z => ?_) ⟨v, hv, rfl⟩⟩
  · exact tn_old hv a (fun k hk => ⟨by have := (gq k hk).1; omega, (gq k hk).2.1⟩) L.length (Nat.le_refl _) n c b d
  · rw [hA, hC, ti_items h hv ha hb g7 a b, inew n c a b]
  · rw [inew n c a (by omega)]
    by_cases z : n < nn ∧ itm Jm m ca n c ≠ itm Jm m cb n c
    · rw [if_pos z]; exact (h.2.2.1 cb hb).1 n c a b d
    · rw [if_neg z]; exact (h.2.2.1 v hv).1 n c a b d
  · unfold tnD
    rw [hne k hk, hcn k (by omega), h.kid hv hk, nI_add]
    by_cases z : tnF Jm m v s (rN L) (rK L) L.length k = true
    · rw [if_pos ⟨hk, z⟩, if_pos z]
    · rw [if_neg (fun y => z y.2), if_neg z]
  · refine ⟨ce + cntP (tnF Jm m v s (rN L) (rK L) L.length) k, by omega, ?_, by rw [if_pos z]⟩
    have h1 := cntP_t z
    have h2 := cntP_mono (tnF Jm m v s (rN L) (rK L) L.length) (a := k + 1) (b := nc) (by omega)
    omega
  · exact ⟨v, hv, hl, by rw [if_neg (by rw [z]; decide)]⟩
end
