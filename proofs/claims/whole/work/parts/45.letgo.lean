/-! Both sides: letting go -/
theorem cnt_first {P : Nat → Bool} : ∀ n, cntP (fun v => P v && !anyP P v) n = if anyP P n = true then 1 else 0 := by
  intro n
  induction n with
  | zero => rfl
  | succ n ih =>
    simp only [cntP, anyP]
    rw [ih]
    rcases Bool.eq_false_or_eq_true (P n) with h1 | h1 <;> rcases Bool.eq_false_or_eq_true (anyP P n) with h2 | h2 <;> simp [h1, h2]
theorem cntP_two {p q r : Nat → Bool} : ∀ n, (∀ i, i < n → p i = (q i || r i) ∧ (q i && r i) = false) → cntP p n = cntP q n + cntP r n := by
  intro n
  induction n with
  | zero => intro _; rfl
  | succ n ih =>
    intro h
    simp only [cntP]
    rw [ih (fun i hi => h i (by omega))]
    have := h n (by omega)
    rw [this.1]
    have h2 := this.2
    cases h3 : q n <;> cases h4 : r n <;> simp [h3, h4] at h2 ⊢ <;> omega
theorem cnt_one {v0 : Nat} : ∀ n, cntP (fun i => i == v0) n = if v0 < n then 1 else 0 := by
  intro n
  induction n with
  | zero => rfl
  | succ n ih =>
    simp only [cntP]
    rw [ih]
    by_cases e : n = v0
    · subst e; simp
    · have : (n == v0) = false := by simp [e]
      simp only [this]
      by_cases e2 : v0 < n
      · rw [if_pos e2, if_pos (show v0 < n + 1 by omega)]; rfl
      · rw [if_neg e2, if_neg (show ¬ v0 < n + 1 by omega)]; rfl
def sumP (f : Nat → Nat) : Nat → Nat
  | 0 => 0
  | k + 1 => sumP f k + f k
theorem sumP_add {f g : Nat → Nat} : ∀ n, sumP (fun k => f k + g k) n = sumP f n + sumP g n := by
  intro n
  induction n with
  | zero => rfl
  | succ n ih => simp only [sumP, ih]; omega
theorem sumP_congr {f g : Nat → Nat} : ∀ n, (∀ i, i < n → f i = g i) → sumP f n = sumP g n := by
  intro n
  induction n with
  | zero => intro _; rfl
  | succ n ih => intro h; simp only [sumP]; rw [ih (fun i hi => h i (by omega)), h n (by omega)]
theorem cnt_sum {p : Nat → Bool} : ∀ n, cntP p n = sumP (fun k => if p k then 1 else 0) n := by
  intro n
  induction n with
  | zero => rfl
  | succ n ih => simp only [cntP, sumP, ih]
theorem sumP_0 : ∀ n, sumP (fun _ => 0) n = 0 := by
  intro n
  induction n with
  | zero => rfl
  | succ n ih => simp only [sumP, ih]
section
variable {x m : Nat} {K N : Nat → Nat} {R : Nat → Nat → Nat} {I Im Im2 : Nat → Nat → Int32} {J Jm : Nat → Nat → Int64} {nn s nc nv ce : Nat}
theorem hN_sum : ∀ nv, hN Im m nc nv = sumP (fun k => cntP (fun v => (Im (m + 6) v == 0) && fsB Im m v k) nv) nc := by
  intro nv
  induction nv with
  | zero => simp only [hN, cntP, sumP_0]
  | succ nv ih =>
    simp only [hN, cntP]
    rw [sumP_add, ih]
    congr 1
    unfold hR
    by_cases e : Im (m + 6) nv = 0
    · rw [if_pos e, cnt_sum]
      exact sumP_congr nc fun k _ => by simp [e]
    · rw [if_neg e]
      have e2 : (Im (m + 6) nv == 0) = false := by simp [e]
      rw [sumP_congr (g := fun _ => 0) nc (fun k _ => by simp [e2]), sumP_0]
/-- the chunks that a version alone holds -/
theorem hN_go {v0 : Nat} (hv : v0 < nv) (hg : Im (m + 6) v0 = 0) (h3 : Im2 (m + 3) = Im (m + 3)) (h6 : Im2 (m + 6) = va_up (Im (m + 6)) v0 1) : hN Im2 m nc nv + cntP (fun k => !hldB Im m nv v0 k) nc = hN Im m nc nv := by
  rw [hN_sum, hN_sum, cnt_sum, ← sumP_add]
  refine sumP_congr nc fun k _ => ?_
  obtain ⟨P, hP⟩ : ∃ P : Nat → Bool, P = fun v => (Im (m + 6) v == 0) && (Im (m + 3) (64 * v + k) == Im (m + 3) (64 * v0 + k)) := ⟨_, rfl⟩
  obtain ⟨P2, hP2⟩ : ∃ P2 : Nat → Bool, P2 = fun v => (Im2 (m + 6) v == 0) && (Im (m + 3) (64 * v + k) == Im (m + 3) (64 * v0 + k)) := ⟨_, rfl⟩
  obtain ⟨Q, hQ⟩ : ∃ Q : Nat → Bool, Q = fun v => ((Im (m + 6) v == 0) && !(Im (m + 3) (64 * v + k) == Im (m + 3) (64 * v0 + k))) && fsB Im m v k := ⟨_, rfl⟩
  have e62 : ∀ v, v ≠ v0 → (Im2 (m + 6) v == 0) = (Im (m + 6) v == 0) := fun v e => by rw [h6, va_up_ne _ _ e]
  have e60 : (Im2 (m + 6) v0 == 0) = false := by rw [h6, va_up_self]; decide
  have e1 : cntP (fun v => (Im (m + 6) v == 0) && fsB Im m v k) nv = cntP (fun v => P v && !anyP P v) nv + cntP Q nv := by
    refine cntP_two nv fun v hv => ?_
    by_cases d : (Im (m + 3) (64 * v + k) == Im (m + 3) (64 * v0 + k)) = true
    · have f : fsB Im m v k = !anyP P v := by
        unfold fsB
        rw [hP, anyP_congr (p := fun w => Im (m + 6) w == 0 && Im (m + 3) (64 * w + k) == Im (m + 3) (64 * v + k)) (q := fun w => (Im (m + 6) w == 0) && (Im (m + 3) (64 * w + k) == Im (m + 3) (64 * v0 + k))) (fun w hw => by rw [eq_of_beq d])]
      have pv : P v = (Im (m + 6) v == 0) := by rw [hP]; simp only [d, Bool.and_true]
      have qv : Q v = false := by rw [hQ]; simp only [d]; simp
      rw [f, pv, qv]
      simp
    · have d2 : (Im (m + 3) (64 * v + k) == Im (m + 3) (64 * v0 + k)) = false := by simpa using d
      have pv : P v = false := by rw [hP]; simp only [d2, Bool.and_false]
      have qv : Q v = ((Im (m + 6) v == 0) && fsB Im m v k) := by rw [hQ]; simp only [d2]; simp
      rw [pv, qv]
      simp
  have e2 : cntP (fun v => (Im2 (m + 6) v == 0) && fsB Im2 m v k) nv = cntP (fun v => P2 v && !anyP P2 v) nv + cntP Q nv := by
    refine cntP_two nv fun v hv => ?_
    by_cases d : (Im (m + 3) (64 * v + k) == Im (m + 3) (64 * v0 + k)) = true
    · have f : fsB Im2 m v k = !anyP P2 v := by
        unfold fsB
        rw [hP2, h3, anyP_congr (p := fun w => Im2 (m + 6) w == 0 && Im (m + 3) (64 * w + k) == Im (m + 3) (64 * v + k)) (q := fun w => (Im2 (m + 6) w == 0) && (Im (m + 3) (64 * w + k) == Im (m + 3) (64 * v0 + k))) (fun w hw => by rw [eq_of_beq d])]
      have pv : P2 v = (Im2 (m + 6) v == 0) := by rw [hP2]; simp only [d, Bool.and_true]
      have qv : Q v = false := by rw [hQ]; simp only [d]; simp
      rw [f, pv, qv]
      simp
    · have d2 : (Im (m + 3) (64 * v + k) == Im (m + 3) (64 * v0 + k)) = false := by simpa using d
      have ne : v ≠ v0 := by rintro rfl; exact d (by simp)
      have pv : P2 v = false := by rw [hP2]; simp only [d2, Bool.and_false]
      have f : fsB Im2 m v k = fsB Im m v k := by
        unfold fsB
        rw [h3, anyP_congr (p := fun w => Im2 (m + 6) w == 0 && Im (m + 3) (64 * w + k) == Im (m + 3) (64 * v + k)) (q := fun w => (Im (m + 6) w == 0) && (Im (m + 3) (64 * w + k) == Im (m + 3) (64 * v + k))) (fun w hw => ?_)]
        by_cases e : w = v0
        · subst e
          have : (Im (m + 3) (64 * w + k) == Im (m + 3) (64 * v + k)) = false := by
            rw [Bool.eq_false_iff] at d2 ⊢
            intro z
            exact d2 (by rw [eq_of_beq z]; simp)
          rw [this]; simp
        · rw [e62 w e]
      have qv : Q v = ((Im (m + 6) v == 0) && fsB Im m v k) := by rw [hQ]; simp only [d2]; simp
      rw [pv, qv, f, e62 v ne]
      simp
  have e3 : anyP P nv = true := anyP_t (i := v0) hv (by rw [hP]; simp [hg])
  have e4 : anyP P2 nv = hldB Im m nv v0 k := by
    unfold hldB
    rw [hP2]
    refine anyP_congr fun i hi => ?_
    by_cases e : i = v0
    · subst e; rw [e60]; simp
    · rw [e62 i e]; simp [e]
  show cntP (fun v => (Im2 (m + 6) v == 0) && fsB Im2 m v k) nv + (if (!hldB Im m nv v0 k) = true then 1 else 0) = cntP (fun v => (Im (m + 6) v == 0) && fsB Im m v k) nv
  rw [e1, e2, cnt_first, cnt_first, e3, e4]
  cases hldB Im m nv v0 k <;> simp <;> omega
theorem lf_go {v0 : Nat} (hv : v0 < nv) (hg : Im (m + 6) v0 = 0) (h6 : Im2 (m + 6) = va_up (Im (m + 6)) v0 1) : lfN Im2 m nv + 1 = lfN Im m nv := by
  unfold lfN
  rw [cntP_two (p := fun v => Im (m + 6) v == 0) (q := fun v => Im2 (m + 6) v == 0) (r := fun i => i == v0) nv, cnt_one, if_pos hv]
  intro i hi
  rw [h6]
  by_cases e : i = v0
  · subst e; rw [va_up_self, hg]; simp
  · rw [va_up_ne _ _ e]; simp [e]
theorem lgI_o {r q : Nat} (h1 : q ≠ x) (h2 : q ≠ r) : lgI I x r q = I q := by
  unfold lgI; rw [va_up_ne _ _ h1, va_up_ne _ _ h2]
theorem e_go (h : Cp x R I J m Im Jm nn s nc nv ce) (cw : CW x K N R) {v0 k : Nat} (hv : v0 < nv) (hk : k < nc) : lgH R I x nv (R (x + 1) v0) k = hldB Im m nv v0 k := by
  have hnv := h.nvle
  have g0 := cw.wg (i := v0) (by omega) (h.hvv v0 hv)
  unfold lgH hldB
  refine anyP_congr fun i hi => ?_
  have gi := cw.wg (i := i) (by omega) (h.hvv i hi)
  by_cases e : i = v0
  · subst e
    have : lgI I x (R (x + 1) i) (R (x + 1) i) 3 = 1 := by
      unfold lgI; rw [va_up_ne _ _ (by omega), va_up_self, va_up_self]
    rw [this]; simp
  · have a := cw.wa (i := i) (j := v0) (by omega) (by omega) e (h.hvv i hi) (h.hvv v0 hv)
    rw [lgI_o (by omega) (by omega), lgI_o (by omega) (by omega), lgI_o (by omega) (by omega), h.kid hi hk, h.kid hv hk, (h.2.1 i hi).2.1.2.2.2]
    simp [e]
theorem e_letGo (h : Cp x R I J m Im Jm nn s nc nv ce) (cw : CW x K N R) {v0 : Nat} (hv : v0 < nv) : cntP (fun k => !lgH R I x nv (R (x + 1) v0) k) nc = cntP (fun i => !hldB Im m nv v0 i) nc :=
  cntP_congr fun k hk => by rw [e_go h cw hv hk]
theorem st_letGo (h : Cp x R I J m Im Jm nn s nc nv ce) (cw : CW x K N R) {v0 e : Nat} (hv : v0 < nv) (hg : Im (m + 6) v0 = 0) (he : e = cntP (fun i => !hldB Im m nv v0 i) nc) : Cp x R (va_up (lgI I x (R (x + 1) v0)) x (va_up (lgI I x (R (x + 1) v0) x) 11 (I x 11 + nI e))) J m (va_up Im (m + 6) (va_up (Im (m + 6)) v0 1)) Jm nn s nc nv ce := by
  have hnn : nn ≤ 64 := h.1.1.1
  have hnv := h.nvle
  have hgo := hN_go (Im2 := va_up Im (m + 6) (va_up (Im (m + 6)) v0 1)) (nc := nc) hv hg (va_up_ne _ _ (by omega)) (va_up_self _ _ _)
  have hlf := lf_go (Im2 := va_up Im (m + 6) (va_up (Im (m + 6)) v0 1)) hv hg (va_up_self _ _ _)
  obtain ⟨hA, hV, hW, hZ, gN, gR, hC⟩ := h
  have hvv : ∀ i, i < nv → R (x + 1) i ≠ 0 := fun i hi => (hV i hi).1
  have g0 := cw.wg (i := v0) (by omega) (hvv v0 hv)
  have mo : ∀ q, q ≠ m + 6 → va_up Im (m + 6) (va_up (Im (m + 6)) v0 1) q = Im q := fun q hq => va_up_ne _ _ hq
  have io : ∀ q, q ≠ x → q ≠ R (x + 1) v0 → va_up (lgI I x (R (x + 1) v0)) x (va_up (lgI I x (R (x + 1) v0) x) 11 (I x 11 + nI e)) q = I q := fun q h1 h2 => by rw [va_up_ne _ _ h1, lgI_o h1 h2]
  have ix : va_up (lgI I x (R (x + 1) v0)) x (va_up (lgI I x (R (x + 1) v0) x) 11 (I x 11 + nI e)) x = va_up (va_up (I x) 9 (I x 9 + 1)) 11 (I x 11 + nI e) := by
    rw [va_up_self]; unfold lgI; rw [va_up_self]
  have ir : va_up (lgI I x (R (x + 1) v0)) x (va_up (lgI I x (R (x + 1) v0) x) 11 (I x 11 + nI e)) (R (x + 1) v0) = va_up (I (R (x + 1) v0)) 3 1 := by
    rw [va_up_ne _ _ (by omega)]; unfold lgI; rw [va_up_ne _ _ (by omega), va_up_self]
  refine ⟨⟨hA.1, ?_, ?_, ?_⟩, fun v hv1 => ?_, fun v hv1 => ?_, hZ, ?_, ?_, ?_⟩
  · rw [ix]
    rw [va_up_ne _ _ (by omega), va_up_ne _ _ (by omega), va_up_ne _ _ (by omega), va_up_ne _ _ (by omega), va_up_ne _ _ (by omega), va_up_ne _ _ (by omega), va_up_ne _ _ (by omega), va_up_ne _ _ (by omega), va_up_ne _ _ (by omega), va_up_ne _ _ (by omega)]
    exact hA.2.1
  · rw [ix, mo m (by omega), va_up_ne _ _ (by omega), va_up_ne _ _ (by omega)]
    exact hA.2.2.1
  · rw [mo m (by omega)]; exact hA.2.2.2
  · obtain ⟨z0, z1, z2, z3⟩ := hV v hv1
    have gi := cw.wg (i := v) (by omega) z0
    rw [mo (m + 3) (by omega), mo (m + 4) (by omega), mo (m + 5) (by omega), va_up_self]
    by_cases ev : v = v0
    · subst ev
      rw [ir, va_up_ne _ _ (by omega), va_up_ne _ _ (by omega), va_up_ne _ _ (by omega), va_up_self, va_up_self, io _ (by omega) (by omega)]
      exact ⟨z0, ⟨z1.1, z1.2.1, z1.2.2.1, rfl⟩, z2, z3⟩
    · have a := cw.wa (i := v) (j := v0) (by omega) (by omega) ev z0 (hvv v0 hv)
      rw [va_up_ne _ _ ev, io _ (by omega) (by omega), io _ (by omega) (by omega)]
      exact ⟨z0, z1, z2, z3⟩
  · rw [mo (m + 3) (by omega), mo (m + 4) (by omega)]
    exact hW v hv1
  · obtain ⟨ng, nh, n1, n2, n3, n4⟩ := gN
    refine ⟨ng + 1, nh + e, ?_, ?_, ?_, ?_⟩
    · rw [ix, va_up_ne _ _ (by omega), va_up_self, n1, nI_1]
    · omega
    · rw [ix, va_up_self, n3, nI_add]
    · rw [he]; omega
  · exact gR.ext hnn (Nat.le_refl _) rfl rfl (by rw [io _ (by omega) (by omega)]) rfl rfl (fun v hv => ⟨rfl, rfl, rfl⟩) (by rw [mo _ (by omega)]) (by rw [mo _ (by omega)]) (mo _ (by omega)) (mo _ (by omega)) rfl rfl (fun v n c _ _ _ => rfl)
  · exact hC.ext rfl rfl (by rw [io _ (by omega) (by omega)]) (by rw [mo _ (by omega)]) (mo _ (by omega)) (mo _ (by omega))
end
