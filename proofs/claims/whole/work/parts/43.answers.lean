/-! Both sides answer alike: the calls that only read -/
section
variable {x m : Nat} {K N : Nat → Nat} {R R2 : Nat → Nat → Nat} {I I2 Im Im2 : Nat → Nat → Int32} {J J2 Jm Jm2 : Nat → Nat → Int64} {nn s nc nv ce : Nat}
theorem c01 {qa : Int32} (h : ¬ qa < 0 ∧ ¬ 1 < qa) : qa.toNatClampNeg < 2 := by
  have h2 : qa.toInt ≤ 1 := by
    have := h.2
    rw [Int32.lt_iff_toInt_lt] at this
    have e : (1 : Int32).toInt = 1 := by decide
    omega
  have : qa.toNatClampNeg = qa.toInt.toNat := rfl
  omega
theorem e_has (h : Cp x R I J m Im Jm nn s nc nv ce) (qv qa qb : Int32) : (if pL R I x nv qv ∧ pN nn qa ∧ pN nn qb then bI (bt (J (R (x + 1) qv.toNatClampNeg + 1) qa.toNatClampNeg) qb.toNatClampNeg = true) else -1) = (if pV Im m nv qv ∧ pN nn qa ∧ pN nn qb then bI (bt (Jm (m + 1) (64 * qv.toNatClampNeg + qa.toNatClampNeg)) qb.toNatClampNeg = true) else -1) := by
  have hnn : nn ≤ 64 := h.1.1.1
  by_cases g : pV Im m nv qv ∧ pN nn qa ∧ pN nn qb
  · have g1 := g.1.1.2
    have g2 := g.2.1.2
    have g3 := g.2.2.2
    rw [if_pos ⟨(h.pl qv).mpr g.1, g.2⟩, if_pos g, h.arc g1 (by omega) (by omega)]
  · rw [if_neg (fun z => g ⟨(h.pl qv).mp z.1, z.2⟩), if_neg g]
theorem e_at (h : Cp x R I J m Im Jm nn s nc nv ce) (qv qa qb : Int32) : (if pL R I x nv qv ∧ (¬ qa < 0 ∧ ¬ 1 < qa) ∧ pN nn qb then J (R (x + 1) qv.toNatClampNeg + 2) (qb.toNatClampNeg * 2 + qa.toNatClampNeg) else 0) = (if pV Im m nv qv ∧ (¬ qa < 0 ∧ ¬ 1 < qa) ∧ pN nn qb then Jm (m + 2) (128 * qv.toNatClampNeg + 64 * qa.toNatClampNeg + qb.toNatClampNeg) else 0) := by
  have hnn : nn ≤ 64 := h.1.1.1
  by_cases g : pV Im m nv qv ∧ (¬ qa < 0 ∧ ¬ 1 < qa) ∧ pN nn qb
  · have g1 := g.1.1.2
    have g3 := g.2.2.2
    rw [if_pos ⟨(h.pl qv).mpr g.1, g.2⟩, if_pos g, h.col g1 (by omega) (c01 g.2.1)]
  · rw [if_neg (fun z => g ⟨(h.pl qv).mp z.1, z.2⟩), if_neg g]
theorem Cp.hi0 (h : Cp x R I J m Im Jm nn s nc nv ce) {v n c : Nat} (hv : v < nv) (hn : n < 64) (h1 : nn ≤ c) (h2 : c < 64) : bt (J (R (x + 1) v + 1) n) c = false := by
  rw [h.arc hv hn h2]
  have := (h.2.2.1 v hv).1 n c hn h1 h2
  rw [itm, if_pos h2, it] at this
  cases z : bt (Jm (m + 1) (64 * v + n)) c
  · rfl
  · rw [z] at this; exact absurd this (by decide)
theorem e_arc (h : Cp x R I J m Im Jm nn s nc nv ce) (qv qk qw : Int32) : (if pL R I x nv qv ∧ (¬ qw < 0 ∧ ¬ 1 < qw) then ansL (arcL (fun f t => bt (J (R (x + 1) qv.toNatClampNeg + 1) f) t) 64 nn) qk qw else -1) = (if pV Im m nv qv ∧ (¬ qw < 0 ∧ ¬ 1 < qw) then ansL (arcL (fun f t => bt (Jm (m + 1) (64 * qv.toNatClampNeg + f)) t) nn nn) qk qw else -1) := by
  have hnn : nn ≤ 64 := h.1.1.1
  by_cases g : pV Im m nv qv ∧ (¬ qw < 0 ∧ ¬ 1 < qw)
  · have g1 := g.1.1.2
    rw [if_pos ⟨(h.pl qv).mpr g.1, g.2⟩, if_pos g, arcL_cut hnn (fun f t h1 h2 h3 => h.hi0 g1 (by omega) h2 h3)]
    have : arcL (fun f t => bt (J (R (x + 1) qv.toNatClampNeg + 1) f) t) nn nn = arcL (fun f t => bt (Jm (m + 1) (64 * qv.toNatClampNeg + f)) t) nn nn := by
      unfold arcL
      refine lstP_ext fun f hf => ?_
      rw [filP_ext (p := fun t => bt (J (R (x + 1) qv.toNatClampNeg + 1) f) t) (q := fun t => bt (Jm (m + 1) (64 * qv.toNatClampNeg + f)) t) (fun t ht => h.arc g1 (by omega) (by omega))]
    rw [this]
  · rw [if_neg (fun z => g ⟨(h.pl qv).mp z.1, z.2⟩), if_neg g]
theorem e_reach (h : Cp x R I J m Im Jm nn s nc nv ce) (g : Nat → Int32) (qv qa qb : Int32) : (if pL R I x nv qv ∧ pN nn qa ∧ pN nn qb then rchA (J (R (x + 1) qv.toNatClampNeg + 1)) nn ((1 : Int64) <<< (qa.toInt64 &&& 63)) qb.toNatClampNeg 0 nn else -1) = (if pV Im m nv qv ∧ pN nn qa ∧ pN nn qb then (rD (fun f t => bt (Jm (m + 1) (64 * qv.toNatClampNeg + f)) t) nn (far0 g qa.toNatClampNeg) nn) qb.toNatClampNeg else -1) := by
  have hnn : nn ≤ 64 := h.1.1.1
  by_cases gg : pV Im m nv qv ∧ pN nn qa ∧ pN nn qb
  · have g1 := gg.1.1.2
    have g3 := gg.2.2.2
    rw [if_pos ⟨(h.pl qv).mpr gg.1, gg.2⟩, if_pos gg]
    obtain ⟨aj, haj, rfl⟩ := pN_ex gg.2.1
    rw [nI_clamp (by omega)]
    exact (reach_eq hnn haj g3 (fun f t hf ht => (h.arc (n := f) (c := t) g1 (by omega) (by omega)).symm)).symm
  · rw [if_neg (fun z => gg ⟨(h.pl qv).mp z.1, z.2⟩), if_neg gg]
theorem e_tell {LQ : List (Nat × Nat)} {F : List Nat} {X Y : Nat → Int32} (hF : F = LQ.map (fun q => q.1 * 66 + q.2)) (hi : ∀ (i : Nat) (q : Nat × Nat), LQ[i]? = some q → q.1 < 64 ∧ q.2 < 66 ∧ X i = nI q.1 ∧ Y i = tN q.2) (qk qw : Int32) : (if pN F.length qk ∧ (¬ qw < 0 ∧ ¬ 1 < qw) then (if qw = 0 then nI ((F[qk.toNatClampNeg]?).getD 0 / 66) else tN ((F[qk.toNatClampNeg]?).getD 0 % 66)) else -99999999) = (if pN LQ.length qk ∧ (¬ qw < 0 ∧ ¬ 1 < qw) then (if qw = 0 then X qk.toNatClampNeg else Y qk.toNatClampNeg) else -99999999) := by
  have hl : F.length = LQ.length := by rw [hF, List.length_map]
  rw [hl]
  by_cases g : pN LQ.length qk ∧ (¬ qw < 0 ∧ ¬ 1 < qw)
  · rw [if_pos g, if_pos g]
    obtain ⟨q, hq⟩ : ∃ q, LQ[qk.toNatClampNeg]? = some q := ⟨_, List.getElem?_eq_getElem g.1.2⟩
    have e := hi _ _ hq
    have : F[qk.toNatClampNeg]? = some (q.1 * 66 + q.2) := by rw [hF, List.getElem?_map, hq]; rfl
    rw [this, e.2.2.1, e.2.2.2]
    have d1 : (q.1 * 66 + q.2) / 66 = q.1 := by omega
    have d2 : (q.1 * 66 + q.2) % 66 = q.2 := by omega
    simp only [Option.getD_some, d1, d2]
  · rw [if_neg g, if_neg g]
theorem F_lt {LQ : List (Nat × Nat)} {F : List Nat} (hF : F = LQ.map (fun q => q.1 * 66 + q.2)) (hi : ∀ (i : Nat) (q : Nat × Nat), LQ[i]? = some q → q.1 < 64 ∧ q.2 < 66) : ∀ j q : Nat, F[j]? = some q → q < 4224 := by
  intro j q h
  rw [hF, List.getElem?_map] at h
  cases z : LQ[j]? with
  | none => rw [z] at h; simp at h
  | some w =>
    rw [z] at h
    simp at h
    have := hi j w z
    omega
theorem fL_z {A Cc : Nat → Int64} (h : ∀ n, n < 64 → A n = 0 ∧ Cc n = 0) : fL A Cc 64 = [] := by
  have := fL_cut (A := A) (Cc := Cc) (nn := 0) (by omega) (fun n _ hn => h n hn)
  rw [this]; rfl
theorem rowL_len {va vb : Nat} (hnn : nn ≤ 64) : (rowL Jm m nn va vb).length ≤ 4224 := by
  have := lstP_len (q := nodL (uR Jm m nn va vb) nn) (b := nn + 2) (fun f => nodL_len) nn
  have h2 : nn * (nn + 2) ≤ 64 * 66 := Nat.mul_le_mul hnn (by omega)
  unfold rowL
  omega
/-- the set of the rows that differ is the reference's list -/
theorem Cp.rowset (h : Cp x R I J m Im Jm nn s nc nv ce) {ca cb : Nat} {A Cc : Nat → Int64} (ha : ca < nv) (hb : cb < nv) (hA : ∀ n, n < nn → A n = J (R (x + 1) ca + 1) n ^^^ J (R (x + 1) cb + 1) n ∧ Cc n = rC J (R (x + 1) ca) (R (x + 1) cb) n) : fL A Cc nn = (rowL Jm m nn ca cb).map (fun q => q.1 * 66 + q.2) := by
  have hnn : nn ≤ 64 := h.1.1.1
  refine set_list hnn (fun n t hn ht => ?_) (fun n c hn hc => ?_)
  · rw [(hA n hn).1, bt_xor, h.arc ha (by omega) ht, h.arc hb (by omega) ht]
    by_cases e : t < nn
    · rw [decide_eq_true e, Bool.true_and]
      unfold uR itm
      rw [cdp, if_pos e, if_pos ht, if_pos ht]
      unfold it
      cases bt (Jm (m + 1) (64 * ca + n)) t <;> cases bt (Jm (m + 1) (64 * cb + n)) t <;> decide
    · rw [decide_eq_false e, Bool.false_and, ← h.arc ha (by omega) ht, ← h.arc hb (by omega) ht, h.hi0 ha (by omega) (by omega) ht, h.hi0 hb (by omega) (by omega) ht]
      rfl
  · rw [(hA n hn).2, rC, ucw_bt _ hc]
    by_cases e : c < 2
    · rw [decide_eq_true e, Bool.true_and, Bool.true_and]
      unfold rDd uR
      rw [h.col ha (by omega) e, h.col hb (by omega) e, cdp, if_neg (by omega), show nn + c - nn = c by omega, itm, itm, if_neg (by omega), if_neg (by omega), show 64 + c - 64 = c by omega]
    · rw [decide_eq_false e]; rfl
theorem Cp.rowQ (h : Cp x R I J m Im Jm nn s nc nv ce) : ∃ LQ : List (Nat × Nat), LQ.length ≤ 4224 ∧ Im m 13 = nI LQ.length ∧ I (x + 2) 0 = nI LQ.length ∧ fL (J (x + 3)) (J (x + 4)) 64 = LQ.map (fun q => q.1 * 66 + q.2) ∧ (∀ (i : Nat) (q : Nat × Nat), LQ[i]? = some q → q.1 < 64 ∧ q.2 < 66 ∧ Im (m + 7) i = nI q.1 ∧ Im (m + 8) i = tN q.2) ∧ (∀ (i : Nat) (q : Nat × Nat), LQ[i]? = some q → R x 3 ≠ 0 ∧ R x 4 ≠ 0 ∧ Jm (m + 9) i = itF (J (R x 3 + 1)) (J (R x 3 + 2)) q.1 q.2 ∧ Jm (m + 10) i = itF (J (R x 4 + 1)) (J (R x 4 + 2)) q.1 q.2) := by
  have hnn : nn ≤ 64 := h.1.1.1
  rcases h.2.2.2.2.2.1 with ⟨h1, h2, h3, h4, h5, h6⟩ | ⟨ca, cb, ha, hb, h1, h2, h3, h4, h5, h6, h7, h8⟩
  · exact ⟨[], by simp, h4, h5, fL_z h6, fun i q z => by simp at z, fun i q z => by simp at z⟩
  · refine ⟨rowL Jm m nn ca cb, rowL_len hnn, h4, h5, ?_, fun i q e => ?_, fun i q e => ?_⟩
    · rw [fL_cut hnn (fun n a b => h8 n a b)]
      exact h.rowset ha hb h7
    · have e1 := row_lt hnn e
      have e2 := h6 i q e
      exact ⟨by omega, e1.2, e2.1, e2.2.1⟩
    · have e1 := row_lt hnn e
      have e2 := h6 i q e
      rw [h2, h3]
      exact ⟨h.hvv ca ha, h.hvv cb hb, by rw [e2.2.2.1]; exact ((h.2.1 ca ha).2.2.2 q.1 q.2 (by omega) e1.2).symm, by rw [e2.2.2.2]; exact ((h.2.1 cb hb).2.2.2 q.1 q.2 (by omega) e1.2).symm⟩
theorem e_was {LQ : List (Nat × Nat)} {F : List Nat} {X Y : Nat → Int64} {ra rb : Nat} (hF : F = LQ.map (fun q => q.1 * 66 + q.2)) (hl : ∀ (i : Nat) (q : Nat × Nat), LQ[i]? = some q → q.1 < 64 ∧ q.2 < 66) (hi : ∀ (i : Nat) (q : Nat × Nat), LQ[i]? = some q → ra ≠ 0 ∧ rb ≠ 0 ∧ X i = itF (J (ra + 1)) (J (ra + 2)) q.1 q.2 ∧ Y i = itF (J (rb + 1)) (J (rb + 2)) q.1 q.2) (qk qs : Int32) : (if pN F.length qk ∧ (if qs = 0 then ra else rb) ≠ 0 ∧ (¬ qs < 0 ∧ ¬ 1 < qs) then cit J (if qs = 0 then ra else rb) ((F[qk.toNatClampNeg]?).getD 0) else 0) = (if pN LQ.length qk ∧ (¬ qs < 0 ∧ ¬ 1 < qs) then (if qs = 0 then X qk.toNatClampNeg else Y qk.toNatClampNeg) else 0) := by
  have hn : F.length = LQ.length := by rw [hF, List.length_map]
  rw [hn]
  by_cases g : pN LQ.length qk ∧ (¬ qs < 0 ∧ ¬ 1 < qs)
  · obtain ⟨q, hq⟩ : ∃ q, LQ[qk.toNatClampNeg]? = some q := ⟨_, List.getElem?_eq_getElem g.1.2⟩
    have e := hi _ _ hq
    have e3 := hl _ _ hq
    have e2 : F[qk.toNatClampNeg]? = some (q.1 * 66 + q.2) := by rw [hF, List.getElem?_map, hq]; rfl
    have d1 : (q.1 * 66 + q.2) / 66 = q.1 := by omega
    have d2 : (q.1 * 66 + q.2) % 66 = q.2 := by omega
    have cc : ∀ r, cit J r ((F[qk.toNatClampNeg]?).getD 0) = itF (J (r + 1)) (J (r + 2)) q.1 q.2 := by
      intro r
      rw [e2]
      simp only [Option.getD_some, cit, d1, d2]
      rfl
    rw [cc, if_pos g, e.2.2.1, e.2.2.2]
    by_cases z : qs = 0
    · simp only [if_pos z]
      rw [if_pos ⟨g.1, e.1, g.2⟩]
    · simp only [if_neg z]
      rw [if_pos ⟨g.1, e.2.1, g.2⟩]
  · rw [if_neg (fun z => g ⟨z.1, z.2.2⟩), if_neg g]
theorem e_chunk (h : Cp x R I J m Im Jm nn s nc nv ce) (qv qa : Int32) : (if pL R I x nv qv then (if pN nc qa then I (R (x + 1) qv.toNatClampNeg + 3) qa.toNatClampNeg else -99999999) else -1) = (if pV Im m nv qv then (if pN nc qa then Im (m + 3) (64 * qv.toNatClampNeg + qa.toNatClampNeg) else -99999999) else -1) := by
  by_cases g : pV Im m nv qv
  · rw [if_pos ((h.pl qv).mpr g), if_pos g]
    by_cases g2 : pN nc qa
    · rw [if_pos g2, if_pos g2, h.kid g.1.2 g2.2]
    · rw [if_neg g2, if_neg g2]
  · rw [if_neg (fun z => g ((h.pl qv).mp z)), if_neg g]
theorem e_shared (h : Cp x R I J m Im Jm nn s nc nv ce) (qv qa : Int32) : (if pL R I x nv qv ∧ pL R I x nv qa then nI (cntP (fun k => I (R (x + 1) qv.toNatClampNeg + 3) k == I (R (x + 1) qa.toNatClampNeg + 3) k) nc) else -1) = (if pV Im m nv qv ∧ pV Im m nv qa then nI (cntP (fun k => Im (m + 3) (64 * qv.toNatClampNeg + k) == Im (m + 3) (64 * qa.toNatClampNeg + k)) nc) else -1) := by
  by_cases g : pV Im m nv qv ∧ pV Im m nv qa
  · rw [if_pos ⟨(h.pl qv).mpr g.1, (h.pl qa).mpr g.2⟩, if_pos g]
    rw [cntP_congr (p := fun k => I (R (x + 1) qv.toNatClampNeg + 3) k == I (R (x + 1) qa.toNatClampNeg + 3) k) (q := fun k => Im (m + 3) (64 * qv.toNatClampNeg + k) == Im (m + 3) (64 * qa.toNatClampNeg + k)) (fun k hk => by rw [h.kid g.1.1.2 hk, h.kid g.2.1.2 hk])]
  · rw [if_neg (fun z => g ⟨(h.pl qv).mp z.1, (h.pl qa).mp z.2⟩), if_neg g]
theorem e_parent (h : Cp x R I J m Im Jm nn s nc nv ce) (qv : Int32) : (if pN nv qv then I (R (x + 1) qv.toNatClampNeg) 1 else -1) = (if pN nv qv then Im (m + 4) qv.toNatClampNeg else -1) := by
  by_cases g : pN nv qv
  · rw [if_pos g, if_pos g, h.par g.2]
  · rw [if_neg g, if_neg g]
theorem anc_congr {p q : Nat → Nat} {nv : Nat} (h : ∀ i, i < nv → p i = q i) (hp : ∀ i, 0 < i → i < nv → p i < nv) : ∀ f xq yq, xq < nv → yq < nv → anc p f xq yq = anc q f xq yq := by
  intro f
  induction f with
  | zero => intro xq yq _ _; rfl
  | succ f ih =>
    intro xq yq hx hy
    simp only [anc]
    by_cases e : xq = yq
    · rw [if_pos e, if_pos e]
    · rw [if_neg e, if_neg e]
      by_cases e2 : yq < xq
      · rw [if_pos e2, if_pos e2, ← h xq hx]
        exact ih _ _ (hp xq (by omega) hx) hy
      · rw [if_neg e2, if_neg e2, ← h yq hy]
        exact ih _ _ hx (hp yq (by omega) hy)
theorem e_ancestor (h : Cp x R I J m Im Jm nn s nc nv ce) (qv qa : Int32) : (if pN nv qv ∧ pN nv qa then nI (anc (fun i => (I (R (x + 1) i) 1).toNatClampNeg) 120 qv.toNatClampNeg qa.toNatClampNeg) else -1) = (if pN nv qv ∧ pN nv qa then nI (anc (fun i => (Im (m + 4) i).toNatClampNeg) 120 qv.toNatClampNeg qa.toNatClampNeg) else -1) := by
  have hnv := h.nvle
  by_cases g : pN nv qv ∧ pN nv qa
  · rw [if_pos g, if_pos g, anc_congr (p := fun i => (I (R (x + 1) i) 1).toNatClampNeg) (q := fun i => (Im (m + 4) i).toNatClampNeg) (nv := nv) (fun i hi => by rw [h.par hi]) (fun i h0 hi => by
      obtain ⟨p, hp, e⟩ := h.ckpar i h0 hi
      simp only [e]
      rw [nI_clamp (by omega)]; omega) 120 _ _ g.1.2 g.2.2]
  · rw [if_neg g, if_neg g]
theorem tmA_congr {G S G' S' : Nat → Int32} {t : Int32} : ∀ n, (∀ i, i < n → G i = G' i ∧ S i = S' i) → tmA G S t n = tmA G' S' t n := by
  intro n
  induction n with
  | zero => intro _; rfl
  | succ n ih =>
    intro h
    simp only [tmA]
    rw [(h n (by omega)).1, (h n (by omega)).2, ih (fun i hi => h i (by omega))]
theorem e_time (h : Cp x R I J m Im Jm nn s nc nv ce) (qt : Int32) : tmC R I x qt nv = tmA (Im (m + 6)) (Im (m + 5)) qt nv := by
  unfold tmC
  exact tmA_congr nv (fun i hi => ⟨(h.2.1 i hi).2.1.2.2.2, (h.2.1 i hi).2.1.2.2.1⟩)
theorem nI_sub {a b : Nat} (h : b ≤ a) : nI a - nI b = nI (a - b) := by
  have e : nI (a - b) + nI b = nI a := by rw [nI_add]; congr 1; omega
  rw [← e, Int32.add_sub_cancel]
theorem e_count (h : Cp x R I J m Im Jm nn s nc nv ce) (qw : Int32) : cntZ qw (I x 5) (I x 8) (I x 8 - I x 9) (I x 10) (I x 10 - I x 11) (I (x + 2) 0) (I (x + 5) 0) (I x 12) = cntZ qw (Im m 0) (Im m 4) (nI (lfN Im m nv)) (Im m 5) (nI (hN Im m nc nv)) (Im m 13) (Im m 18) (Im m 3) := by
  obtain ⟨LQ, -, r1, r2, -⟩ := h.rowQ
  obtain ⟨LC, -, -, -, c1, c2⟩ := h.2.2.2.2.2.2
  obtain ⟨ng, nh, n1, n2, n3, n4⟩ := h.2.2.2.2.1
  have a := h.1
  rw [r1, r2, c1, c2, a.2.1.1, a.2.1.2.2.2.1, a.2.1.2.2.2.2, a.2.2.1.1, a.2.2.1.2.2.1, a.2.2.1.2.2.2.1, a.2.2.1.2.2.2.2, n1, n3, nI_sub (by omega), nI_sub (by omega), show nv - ng = lfN Im m nv by omega, show ce - nh = hN Im m nc nv by omega]
end
