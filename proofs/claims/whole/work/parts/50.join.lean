/-! Both sides: join -/
section
variable {x m : Nat} {K N K2 N2 : Nat → Nat} {R R2 : Nat → Nat → Nat} {I I2 Im X : Nat → Nat → Int32} {J J2 Jm Jq : Nat → Nat → Int64} {nn s nc nv ce ce2 sz sz2 r vo va vb : Nat}
theorem jnd_01 {n c : Nat} (hc : c < 64) : jnd Jm m vo va vb n c = 0 ∨ jnd Jm m vo va vb n c = 1 := by
  unfold jnd
  split
  · rw [itm_a hc]; exact it_01
  · rw [itm_a hc]; exact it_01
theorem jP_n {n n' c : Nat} (hnn : nn ≤ 64) (hn : n < 64) (hn' : n' < 64) (hc : c < 66) : ∀ p, p ≤ nn + 2 → itm (jP Jm m nn vo va vb nv n J2 p) m nv n' c = if n' = n ∧ (∃ p', p' < p ∧ cdp nn p' = c) then jnd Jm m vo va vb n c else itm J2 m nv n' c := by
  intro p
  induction p with
  | zero => intro _; rw [if_neg (by rintro ⟨-, p', z, -⟩; omega)]; rfl
  | succ p ih =>
    intro hp
    have cl := cdp_lt (nn := nn) (p := p) hnn (by omega)
    simp only [jP]
    rw [setm_n (fun z => jnd_01 z) hn' hn hc cl]
    by_cases e : n' = n ∧ c = cdp nn p
    · rw [if_pos e, if_pos ⟨e.1, p, by omega, e.2.symm⟩, e.2]
    · rw [if_neg e, ih (by omega)]
      by_cases z : n' = n ∧ (∃ p', p' < p ∧ cdp nn p' = c)
      · rw [if_pos z, if_pos ⟨z.1, by obtain ⟨p', a, b⟩ := z.2; exact ⟨p', by omega, b⟩⟩]
      · rw [if_neg z, if_neg ?_]
        rintro ⟨a, p', b, d⟩
        by_cases y : p' = p
        · subst y; exact e ⟨a, d.symm⟩
        · exact z ⟨a, p', by omega, d⟩
theorem jJ_n {n c : Nat} (hnn : nn ≤ 64) (ha : va < nv) (hn : n < 64) (hc : c < 66) : ∀ q, q ≤ nn → itm (jJ Jm m nn vo va vb nv q) m nv n c = if n < q ∧ (∃ p, p < nn + 2 ∧ cdp nn p = c) then jnd Jm m vo va vb n c else itm Jm m va n c := by
  intro q
  induction q with
  | zero => intro _; rw [if_neg (by rintro ⟨z, -⟩; omega)]; exact cp_n ha hn hc
  | succ q ih =>
    intro hq
    simp only [jJ]
    rw [jP_n hnn (by omega) hn hc (nn + 2) (Nat.le_refl _), ih (by omega)]
    by_cases e : n = q ∧ (∃ p', p' < nn + 2 ∧ cdp nn p' = c)
    · rw [if_pos e, if_pos ⟨by omega, e.2⟩, e.1]
    · rw [if_neg e]
      by_cases z : n < q ∧ (∃ p, p < nn + 2 ∧ cdp nn p = c)
      · rw [if_pos z, if_pos ⟨by omega, z.2⟩]
      · rw [if_neg z, if_neg ?_]
        rintro ⟨a, b⟩
        by_cases y : n = q
        · exact e ⟨y, b⟩
        · exact z ⟨by omega, b⟩
theorem jP_o {n q : Nat} (h1 : q ≠ m + 1) (h2 : q ≠ m + 2) : ∀ p, jP Jm m nn vo va vb nv n J2 p q = J2 q := by
  intro p
  induction p with
  | zero => rfl
  | succ p ih => simp only [jP]; rw [setm_o h1 h2, ih]
theorem jJ_o {q : Nat} (h1 : q ≠ m + 1) (h2 : q ≠ m + 2) : ∀ n, jJ Jm m nn vo va vb nv n q = Jm q := by
  intro n
  induction n with
  | zero => exact cpJ_o h1 h2
  | succ n ih => simp only [jJ]; rw [jP_o h1 h2, ih]
theorem Cp.cdpx {c : Nat} (hc : c < 66) (hz : ¬ (nn ≤ c ∧ c < 64)) : ∃ p, p < nn + 2 ∧ cdp nn p = c := by
  by_cases z : c < 64
  · exact ⟨c, by omega, by rw [cdp, if_pos (by omega)]⟩
  · exact ⟨nn + (c - 64), by omega, by rw [cdp, if_neg (by omega)]; omega⟩
theorem Cp.jnew (h : Cp x R I J m Im Jm nn s nc nv ce) (ho : vo < nv) (ha : va < nv) (hb : vb < nv) {n c : Nat} (hn : n < 64) (hc : c < 66) : itm (jJ Jm m nn vo va vb nv nn) m nv n c = if n < nn then jnd Jm m vo va vb n c else itm Jm m va n c := by
  have hnn : nn ≤ 64 := h.1.1.1
  rw [jJ_n hnn ha hn hc nn (Nat.le_refl _)]
  by_cases z : nn ≤ c ∧ c < 64
  · have z0 := (h.2.2.1 vo ho).1 n c hn z.1 z.2
    have z1 := (h.2.2.1 va ha).1 n c hn z.1 z.2
    have z2 := (h.2.2.1 vb hb).1 n c hn z.1 z.2
    have e : jnd Jm m vo va vb n c = itm Jm m va n c := by unfold jnd; rw [z0, z1, z2]; simp
    rw [e]
    simp
  · have w := Cp.cdpx hc z
    by_cases y : n < nn
    · rw [if_pos ⟨y, w⟩, if_pos y]
    · rw [if_neg (fun q => y q.1), if_neg y]
theorem jiW_bt {w o b : Int64} {t : Nat} (ht : t < 64) : bt (jiW w o b) t = if bt w t = bt o t then bt b t else bt w t := by
  unfold jiW
  simp only [bt_or, bt_and, bt_xor, bt_m1 ht]
  cases bt w t <;> cases bt o t <;> simp
theorem ji_items (h : Cp x R I J m Im Jm nn s nc nv ce) (ho : vo < nv) (ha : va < nv) (hb : vb < nv) {n c : Nat} (hn : n < 64) (hc : c < 66) : itF (jiA (J (R (x + 1) va + 1)) (J (R (x + 1) vo + 1)) (J (R (x + 1) vb + 1)) nn) (jiC (J (R (x + 1) va + 2)) (J (R (x + 1) vo + 2)) (J (R (x + 1) vb + 2)) (nn * 2)) n c = if n < nn then jnd Jm m vo va vb n c else itm Jm m va n c := by
  unfold jnd
  by_cases z : c < 64
  · rw [itF_a z, jiA]
    by_cases y : n < nn
    · rw [if_pos y, if_pos y]
      by_cases w : bt (Jm (m + 1) (64 * va + n)) c = bt (Jm (m + 1) (64 * vo + n)) c
      · rw [if_pos (by rw [itm_a z, itm_a z, it_inj]; exact w), itm_a z, it_inj, jiW_bt z, h.arc ha hn z, h.arc hb hn z, h.arc ho hn z, if_pos w]
      · rw [if_neg (fun q => w (by rw [itm_a z, itm_a z, it_inj] at q; exact q)), itm_a z, it_inj, jiW_bt z, h.arc ha hn z, h.arc hb hn z, h.arc ho hn z, if_neg w]
    · rw [if_neg y, if_neg y, itm_a z, it_inj, h.arc ha hn z]
  · obtain ⟨j, hj, rfl⟩ : ∃ j, j < 2 ∧ c = 64 + j := ⟨c - 64, by omega, by omega⟩
    rw [itF_c, jiC, h.colk ha hn hj, h.colk hb hn hj, h.colk ho hn hj]
    by_cases y : n < nn
    · rw [if_pos y]
      by_cases w : itm Jm m va n (64 + j) = itm Jm m vo n (64 + j)
      · rw [if_pos ⟨by omega, w⟩, if_pos w]
      · rw [if_neg (fun q => w q.2), if_neg w]
    · rw [if_neg (fun q => by omega), if_neg y]
theorem lkB_iff {a b k : Nat} (hnn : nn ≤ 64) (hs : 0 < s) (hz : ∀ n c, n < 64 → nn ≤ c → c < 64 → itm Jq m a n c = itm Jq m b n c) : lkB Jq m nn a b s k = true ↔ ∀ n, n < nn → n / s = k → ∀ c, c < 66 → itm Jq m a n c = itm Jq m b n c := by
  unfold lkB
  rw [Bool.not_eq_true', Bool.eq_false_iff, ne_eq, anyP_iff]
  constructor
  · intro h n hn hk c hc
    by_cases z : nn ≤ c ∧ c < 64
    · exact hz n c (by omega) z.1 z.2
    · obtain ⟨p, hp, e⟩ := Cp.cdpx hc z
      by_cases y : itm Jq m a n c = itm Jq m b n c
      · exact y
      · refine absurd ⟨n - s * k, ?_, ?_⟩ h
        · have d := Nat.div_add_mod n s
          have l := Nat.mod_lt n hs
          rw [hk] at d
          omega
        · have d := Nat.div_add_mod n s
          rw [hk] at d
          rw [show s * k + (n - s * k) = n by omega]
          unfold unl
          exact anyP_t hp (by rw [e]; simpa using y)
  · rintro h ⟨i, hi, e⟩
    unfold unl at e
    rw [anyP_iff] at e
    obtain ⟨p, hp, e⟩ := e
    have := h (s * k + i) (by omega) (by rw [Nat.mul_add_div hs, Nat.div_eq_of_lt (by omega)]; omega) (cdp nn p) (cdp_lt hnn hp)
    rw [this] at e
    simp at e
theorem cjF_f1 {a b : Bool} {X Y W : Int32} (h : Y = X) : cjF X Y W a b = false := by unfold cjF; simp [h]
theorem cjF_f2 {a b : Bool} {X Y W : Int32} (h : W = X ∨ W = Y) : cjF X Y W a b = false := by
  unfold cjF
  rcases h with h | h <;> simp [h]
theorem jC_ids {la lb : Nat → Bool} (hla : ∀ k, k < nc → lkB Jq m nn nv va s k = la k) (hlb : ∀ k, k < nc → lkB Jq m nn nv vb s k = lb k) (hlo : ∀ k, k < nc → lkB Jq m nn nv vo s k = true → la k = true) (ha : va < nv) (h5 : Im m 5 = nI ce) (hnc : nc ≤ 64) : ∀ k, k ≤ nc →
    MS m nv (ce + cntP (fun j => cjF (Im (m + 3) (64 * vo + j)) (Im (m + 3) (64 * va + j)) (Im (m + 3) (64 * vb + j)) (la j) (lb j)) k) (nI va) (fun j => if j < k then cjV (Im (m + 3) (64 * vo + j)) (Im (m + 3) (64 * va + j)) (Im (m + 3) (64 * vb + j)) (nI (ce + cntP (fun j => cjF (Im (m + 3) (64 * vo + j)) (Im (m + 3) (64 * va + j)) (Im (m + 3) (64 * vb + j)) (la j) (lb j)) j)) (la j) (lb j) else Im (m + 3) (64 * va + j)) Im (jC Im Jq m nn s vo va vb nv k) := by
  intro k
  induction k with
  | zero => intro _; exact (MS.cp h5 ha).dk fun j _ => by rw [if_neg (by omega)]
  | succ k ih =>
    intro hk
    have ihm := ih (by omega)
    obtain ⟨F, hF⟩ : ∃ F : Nat → Bool, F = fun j => cjF (Im (m + 3) (64 * vo + j)) (Im (m + 3) (64 * va + j)) (Im (m + 3) (64 * vb + j)) (la j) (lb j) := ⟨_, rfl⟩
    have hFk : F k = cjF (Im (m + 3) (64 * vo + k)) (Im (m + 3) (64 * va + k)) (Im (m + 3) (64 * vb + k)) (la k) (lb k) := by rw [hF]
    rw [← hF] at ihm ⊢
    have dk : ∀ (D2 : Nat → Int32) (id : Int32), (∀ j, j ≠ k → D2 j = if j < k then cjV (Im (m + 3) (64 * vo + j)) (Im (m + 3) (64 * va + j)) (Im (m + 3) (64 * vb + j)) (nI (ce + cntP F j)) (la j) (lb j) else Im (m + 3) (64 * va + j)) → D2 k = cjV (Im (m + 3) (64 * vo + k)) (Im (m + 3) (64 * va + k)) (Im (m + 3) (64 * vb + k)) (nI (ce + cntP F k)) (la k) (lb k) → ∀ j, j < 64 → D2 j = if j < k + 1 then cjV (Im (m + 3) (64 * vo + j)) (Im (m + 3) (64 * va + j)) (Im (m + 3) (64 * vb + j)) (nI (ce + cntP F j)) (la j) (lb j) else Im (m + 3) (64 * va + j) := by
      intro D2 id d1 d2 j hj
      by_cases e : j = k
      · subst e; rw [d2, if_pos (by omega)]
      · rw [d1 j e]
        by_cases z : j < k
        · rw [if_pos z, if_pos (by omega)]
        · rw [if_neg z, if_neg (by omega)]
    simp only [jC]
    rw [hla k (by omega), hlb k (by omega)]
    by_cases c1 : Im (m + 3) (64 * va + k) = Im (m + 3) (64 * vo + k)
    · rw [if_pos c1, cntP_f (by rw [hFk]; exact cjF_f1 c1)]
      refine (ihm.put (k := k) (by omega)).dk (dk _ 0 (fun j hj => by rw [va_up_ne _ _ hj]) ?_)
      rw [va_up_self, cjV, if_pos c1]
    · rw [if_neg c1]
      by_cases c2 : Im (m + 3) (64 * vb + k) = Im (m + 3) (64 * vo + k) ∨ Im (m + 3) (64 * vb + k) = Im (m + 3) (64 * va + k)
      · rw [if_pos c2, cntP_f (by rw [hFk]; exact cjF_f2 c2)]
        refine ihm.dk (dk _ 0 (fun j hj => rfl) ?_)
        rw [if_neg (by omega), cjV, if_neg c1, if_pos (by rcases c2 with z | z <;> simp [z])]
      · rw [if_neg c2]
        by_cases c3 : la k = true
        · rw [if_pos c3, cntP_f (by rw [hFk]; unfold cjF; simp [c3])]
          refine (ihm.put (k := k) (by omega)).dk (dk _ 0 (fun j hj => by rw [va_up_ne _ _ hj]) ?_)
          rw [va_up_self, cjV, if_neg c1, if_pos (Or.inr (Or.inr c3))]
        · rw [if_neg c3]
          by_cases c4 : lb k = true
          · rw [if_pos c4, cntP_f (by rw [hFk]; unfold cjF; simp [c4])]
            refine (ihm.put (k := k) (by omega)).dk (dk _ 0 (fun j hj => by rw [va_up_ne _ _ hj]) ?_)
            rw [va_up_self, cjV, if_neg c1, if_neg (by rintro (z | z | z); exact c2 (Or.inl z); exact c2 (Or.inr z); exact c3 z), if_pos c4]
          · rw [if_neg c4, if_neg (fun z => c3 (hlo k (by omega) z))]
            have c21 : ¬ Im (m + 3) (64 * vb + k) = Im (m + 3) (64 * vo + k) := fun z => c2 (Or.inl z)
            have c22 : ¬ Im (m + 3) (64 * vb + k) = Im (m + 3) (64 * va + k) := fun z => c2 (Or.inr z)
            rw [cntP_t (by rw [hFk]; unfold cjF; simp [c1, c21, c22, c3, c4]), ← Nat.add_assoc]
            refine (ihm.fr (k := k) (by omega)).dk (dk _ 0 (fun j hj => by rw [va_up_ne _ _ hj]) ?_)
            rw [va_up_self, cjV, if_neg c1, if_neg (by rintro (z | z | z); exact c21 z; exact c22 z; exact c3 z), if_neg c4]
theorem e_cf (h : Cp x R I J m Im Jm nn s nc nv ce) (ho : vo < nv) (ha : va < nv) (hb : vb < nv) : anyP (cfB J (R (x + 1) vo) (R (x + 1) va) (R (x + 1) vb)) (nn * 2) = true ↔ ¬ cfL Jm m nn vo va vb = [] := by
  have hnn : nn ≤ 64 := h.1.1.1
  rw [anyP_iff]
  constructor
  · rintro ⟨i, hi, e⟩ z
    obtain ⟨n, c, hn, hc, rfl⟩ : ∃ n c, n < nn ∧ c < 2 ∧ i = n * 2 + c := ⟨i / 2, i % 2, by omega, by omega, by omega⟩
    unfold cfB at e
    rw [h.colk ha (by omega) hc, h.colk hb (by omega) hc, h.colk ho (by omega) hc, Bool.and_eq_true, Bool.and_eq_true] at e
    have c0 : cdp nn (nn + c) = 64 + c := by rw [cdp, if_neg (by omega)]; omega
    obtain ⟨k, hk⟩ := mem_nod (u := uC Jm m nn vo va vb) (nn := nn) hn (p := nn + c) (by omega) (by
      unfold uC
      rw [c0, decide_eq_true_eq]
      exact ⟨by simpa using e.1, by simpa using e.2.1, by simpa using e.2.2⟩)
    unfold cfL at z
    rw [z] at hk
    simp at hk
  · intro z
    obtain ⟨q, hq⟩ := L_get (L := cfL Jm m nn vo va vb) (i := 0) (List.length_pos_iff.mpr z)
    obtain ⟨q1, q2, p, hp, ep, u⟩ := nod_mem hnn hq
    unfold uC at u
    rw [← ep, decide_eq_true_eq] at u
    obtain ⟨u1, u2, u3⟩ := u
    by_cases y : q.2 < 64
    · exact absurd (it3 y (a := va) (b := vb) (c := vo) u3 (fun w => u1 w.symm)) (fun w => u2 w.symm)
    · obtain ⟨c, hc, ec⟩ : ∃ c, c < 2 ∧ q.2 = 64 + c := ⟨q.2 - 64, by omega, by omega⟩
      rw [ec] at u1 u2 u3
      refine ⟨q.1 * 2 + c, by omega, ?_⟩
      unfold cfB
      rw [h.colk ha (by omega) hc, h.colk hb (by omega) hc, h.colk ho (by omega) hc]
      simp [u1, u2, u3]
theorem st_join (h : Cp x R I J m Im Jm nn s nc nv ce) (cw : CW x K N R) (ho : vo < nv) (ha : va < nv) (hb : vb < nv) (lo : Im (m + 6) vo = 0) (la : Im (m + 6) va = 0) (lb : Im (m + 6) vb = 0) {A Cc : Nat → Int64} (hA : A = jiA (J (R (x + 1) va + 1)) (J (R (x + 1) vo + 1)) (J (R (x + 1) vb + 1)) nn) (hC : Cc = jiC (J (R (x + 1) va + 2)) (J (R (x + 1) vo + 2)) (J (R (x + 1) vb + 2)) (nn * 2)) {fr : Nat → Bool}
    (hfr : fr = fun j => cjF (I (R (x + 1) vo + 3) j) (I (R (x + 1) va + 3) j) (I (R (x + 1) vb + 3) j) (!neK A Cc (J (R (x + 1) va + 1)) (J (R (x + 1) va + 2)) s nn j) (!neK A Cc (J (R (x + 1) vb + 1)) (J (R (x + 1) vb + 2)) s nn j))
    (hN : NV x nv r A Cc (jnD (I (R (x + 1) vo + 3)) (I (R (x + 1) va + 3)) (I (R (x + 1) vb + 3)) (I x 10) (fun j => !neK A Cc (J (R (x + 1) va + 1)) (J (R (x + 1) va + 2)) s nn j) (fun j => !neK A Cc (J (R (x + 1) vb + 1)) (J (R (x + 1) vb + 2)) s nn j) fr nc) (I (R (x + 1) va) 0) (I x 10 + nI (cntP fr nc)) K N R I J sz K2 N2 R2 I2 J2 sz2) :
    ∃ ce2, Cp x R2 I2 J2 m (mdI (jC Im (jJ Jm m nn vo va vb nv nn) m nn s vo va vb nv nc) m) (jJ Jm m nn vo va vb nv nn) nn s nc (nv + 1) ce2 := by
  have hnn : nn ≤ 64 := h.1.1.1
  have hncle := h.ncle
  have hs : 0 < s := h.1.1.2.1
  have fo := h.2.1 vo ho
  have fa := h.2.1 va ha
  have fb := h.2.1 vb hb
  have e10 := h.1.2.1.2.2.2.2
  have inew : ∀ n c, n < 64 → c < 66 → itF A Cc n c = itm (jJ Jm m nn vo va vb nv nn) m nv n c := fun n c hn hc => by
    rw [hA, hC, ji_items h ho ha hb hn hc, h.jnew ho ha hb hn hc]
  have iold : ∀ v n c, v < nv → n < 64 → c < 66 → itm (jJ Jm m nn vo va vb nv nn) m v n c = itm Jm m v n c := fun v n c hv hn hc => jJ_i hnn ha hv hn hc (Nat.le_refl _)
  have iz : ∀ n c, n < 64 → nn ≤ c → c < 64 → itm (jJ Jm m nn vo va vb nv nn) m nv n c = 0 := fun n c hn h1 h2 => by
    rw [h.jnew ho ha hb hn (by omega)]
    have z1 := (h.2.2.1 va ha).1 n c hn h1 h2
    have z2 := (h.2.2.1 vb hb).1 n c hn h1 h2
    unfold jnd
    rw [z1, z2]
    simp
  have lk : ∀ v, v < nv → ∀ k, k < nc → lkB (jJ Jm m nn vo va vb nv nn) m nn nv v s k = !neK A Cc (J (R (x + 1) v + 1)) (J (R (x + 1) v + 2)) s nn k := by
    intro v hv k hk
    rw [Bool.eq_iff_iff, lkB_iff hnn hs (fun n c hn h1 h2 => by rw [iz n c hn h1 h2, iold v n c hv hn (by omega)]; exact ((h.2.2.1 v hv).1 n c hn h1 h2).symm), Bool.not_eq_true', Bool.eq_false_iff, ne_eq, neK_iff hs]
    constructor
    · rintro q ⟨n, n1, n2, c, c1, c2⟩
      apply c2
      rw [inew n c (by omega) c1, q n n1 n2 c c1, iold v n c hv (by omega) c1]
      exact ((h.2.1 v hv).2.2.2 n c (by omega) c1).symm
    · intro q n n1 n2 c c1
      by_cases y : itm (jJ Jm m nn vo va vb nv nn) m nv n c = itm (jJ Jm m nn vo va vb nv nn) m v n c
      · exact y
      · exact absurd ⟨n, n1, n2, c, c1, by rw [inew n c (by omega) c1, (h.2.1 v hv).2.2.2 n c (by omega) c1, ← iold v n c hv (by omega) c1]; exact y⟩ q
  have lbase : ∀ k, k < nc → lkB (jJ Jm m nn vo va vb nv nn) m nn nv vo s k = true → (!neK A Cc (J (R (x + 1) va + 1)) (J (R (x + 1) va + 2)) s nn k) = true := by
    intro k hk q
    rw [← lk va ha k hk]
    rw [lkB_iff hnn hs (fun n c hn h1 h2 => by rw [iz n c hn h1 h2, iold vo n c ho hn (by omega)]; exact ((h.2.2.1 vo ho).1 n c hn h1 h2).symm)] at q
    rw [lkB_iff hnn hs (fun n c hn h1 h2 => by rw [iz n c hn h1 h2, iold va n c ha hn (by omega)]; exact ((h.2.2.1 va ha).1 n c hn h1 h2).symm)]
    intro n n1 n2 c c1
    have q1 := q n n1 n2 c c1
    rw [iold va n c ha (by omega) c1]
    rw [iold vo n c ho (by omega) c1] at q1
    by_cases y : itm Jm m va n c = itm Jm m vo n c
    · rw [q1, y]
    · rw [h.jnew ho ha hb (by omega) c1, if_pos n1]
      unfold jnd
      rw [if_neg y]
  have ids := jC_ids (Im := Im) (Jq := jJ Jm m nn vo va vb nv nn) (m := m) (nn := nn) (nv := nv) (s := s) (nc := nc) (ce := ce) (vo := vo) (va := va) (vb := vb) (lk va ha) (lk vb hb) lbase ha h.1.2.2.1.2.2.2.1 hncle nc (Nat.le_refl _)
  obtain ⟨F, hF⟩ : ∃ F : Nat → Bool, F = fun j => cjF (Im (m + 3) (64 * vo + j)) (Im (m + 3) (64 * va + j)) (Im (m + 3) (64 * vb + j)) (!neK A Cc (J (R (x + 1) va + 1)) (J (R (x + 1) va + 2)) s nn j) (!neK A Cc (J (R (x + 1) vb + 1)) (J (R (x + 1) vb + 2)) s nn j) := ⟨_, rfl⟩
  have hFf : ∀ k, k < nc → fr k = F k := fun k hk => by
    rw [hfr, hF]
    simp only
    rw [h.kid ho hk, h.kid ha hk, h.kid hb hk]
  have hcn : ∀ k, k ≤ nc → cntP fr k = cntP F k := fun k hk => cntP_congr fun i hi => hFf i (by omega)
  rw [← hF] at ids
  rw [fa.2.1.1, e10, hcn nc (Nat.le_refl _), nI_add] at hN
  refine ⟨_, h.new cw hN ids iold ?_ ?_ rfl F rfl (by omega) inew iz (fun k hk => ?_) (fun k hk z => ?_) (fun k hk z => ?_) ⟨va, ha, rfl⟩⟩
  · exact jJ_o (by omega) (by omega) nn
  · exact jJ_o (by omega) (by omega) nn
  · unfold jnD
    rw [if_pos hk, if_pos hk, hcn k (by omega), h.kid ho hk, h.kid ha hk, h.kid hb hk, nI_add]
  · refine ⟨ce + cntP F k, by omega, ?_, ?_⟩
    · have h1 := cntP_t z
      have h2 := cntP_mono F (a := k + 1) (b := nc) (by omega)
      omega
    · rw [if_pos hk]
      rw [hF] at z
      simp only [cjF, Bool.and_eq_true] at z
      obtain ⟨z1, z2, z3, z4, z5⟩ := z
      have z1 : ¬ Im (m + 3) (64 * va + k) = Im (m + 3) (64 * vo + k) := by simpa using z1
      have z2 : ¬ Im (m + 3) (64 * vb + k) = Im (m + 3) (64 * vo + k) := by simpa using z2
      have z3 : ¬ Im (m + 3) (64 * vb + k) = Im (m + 3) (64 * va + k) := by simpa using z3
      have z4' : (!neK A Cc (J (R (x + 1) va + 1)) (J (R (x + 1) va + 2)) s nn k) = false := by simpa using z4
      have z5' : (!neK A Cc (J (R (x + 1) vb + 1)) (J (R (x + 1) vb + 2)) s nn k) = false := by simpa using z5
      rw [cjV, if_neg z1, if_neg (by rintro (y | y | y); exact z2 y; exact z3 y; exact absurd (z4'.symm.trans y) (by decide)), if_neg (by rw [z5']; decide)]
  · rw [if_pos hk]
    unfold cjV
    by_cases c1 : Im (m + 3) (64 * va + k) = Im (m + 3) (64 * vo + k)
    · exact ⟨vb, hb, lb, by rw [if_pos c1]⟩
    · rw [if_neg c1]
      by_cases c2 : Im (m + 3) (64 * vb + k) = Im (m + 3) (64 * vo + k) ∨ Im (m + 3) (64 * vb + k) = Im (m + 3) (64 * va + k) ∨ (!neK A Cc (J (R (x + 1) va + 1)) (J (R (x + 1) va + 2)) s nn k) = true
      · exact ⟨va, ha, la, by rw [if_pos c2]⟩
      · rw [if_neg c2]
        by_cases c3 : (!neK A Cc (J (R (x + 1) vb + 1)) (J (R (x + 1) vb + 2)) s nn k) = true
        · exact ⟨vb, hb, lb, by rw [if_pos c3]⟩
        · exfalso
          rw [hF] at z
          simp only [cjF] at z
          have d1 : (!neK A Cc (J (R (x + 1) va + 1)) (J (R (x + 1) va + 2)) s nn k) = false := by
            cases y : (!neK A Cc (J (R (x + 1) va + 1)) (J (R (x + 1) va + 2)) s nn k)
            · rfl
            · exact absurd (Or.inr (Or.inr y)) c2
          have d2 : (!neK A Cc (J (R (x + 1) vb + 1)) (J (R (x + 1) vb + 2)) s nn k) = false := by
            cases y : (!neK A Cc (J (R (x + 1) vb + 1)) (J (R (x + 1) vb + 2)) s nn k)
            · rfl
            · exact absurd y c3
          rw [d1, d2] at z
          have d3 : ¬ Im (m + 3) (64 * vb + k) = Im (m + 3) (64 * vo + k) := fun y => c2 (Or.inl y)
          have d4 : ¬ Im (m + 3) (64 * vb + k) = Im (m + 3) (64 * va + k) := fun y => c2 (Or.inr (Or.inl y))
          simp [c1, d3, d4] at z
end
