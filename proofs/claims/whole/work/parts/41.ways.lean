/-! Both sides: the ways -/
theorem led_bt {W : Nat → Int64} {sq : Int64} {t : Nat} : ∀ nn, bt (ledL W sq nn) t = anyP (fun k => bt sq k && bt (W k) t) nn := by
  intro nn
  induction nn with
  | zero => show bt 0 t = false; unfold bt; simp
  | succ nn ih =>
    simp only [ledL, anyP]
    by_cases h : bt sq nn = true
    · rw [if_pos h, bt_or, ih, h]; simp
    · rw [if_neg h, ih]; simp [h]
theorem rX_eq {pp : Nat → Nat → Bool} {nn d : Nat} {F : Nat → Int32} (hd : d < 64) {yq : Nat} : ∀ n, rX pp nn d F n yq = if yq < nn ∧ F yq = -99999999 ∧ ∃ z, z < n ∧ F z = nI d ∧ pp z yq = true then nI (d + 1) else F yq := by
  intro n
  induction n generalizing yq with
  | zero => rw [if_neg (by rintro ⟨-, -, z, hz, -⟩; omega)]; rfl
  | succ n ih =>
    have hn : rX pp nn d F n n = nI d ↔ F n = nI d := by
      rw [ih]
      by_cases c : n < nn ∧ F n = -99999999 ∧ ∃ z, z < n ∧ F z = nI d ∧ pp z n = true
      · rw [if_pos c]
        constructor
        · intro h; exact absurd ((nI_eq (by omega) (by omega)).mp h) (by omega)
        · intro h; exact absurd (c.2.1.symm.trans h) (none_ne (by omega))
      · rw [if_neg c]
    simp only [rX, stX]
    rw [ih (yq := yq)]
    by_cases c : yq < nn ∧ F yq = -99999999 ∧ ∃ z, z < n ∧ F z = nI d ∧ pp z yq = true
    · rw [if_pos c, if_neg (fun w => none_ne (d := d + 1) (by omega) w.2.2.1.symm), if_pos ⟨c.1, c.2.1, by obtain ⟨z, h1, h2⟩ := c.2.2; exact ⟨z, by omega, h2⟩⟩]
    · rw [if_neg c]
      by_cases c2 : yq < nn ∧ F n = nI d ∧ F yq = -99999999 ∧ pp n yq = true
      · rw [if_pos ⟨c2.1, hn.mpr c2.2.1, c2.2.2⟩, if_pos ⟨c2.1, c2.2.2.1, n, by omega, c2.2.1, c2.2.2.2⟩]
      · rw [if_neg (fun w => c2 ⟨w.1, hn.mp w.2.1, w.2.2⟩), if_neg ?_]
        rintro ⟨w1, w2, z, w3, w4, w5⟩
        by_cases e : z = n
        · subst e; exact c2 ⟨w1, w4, w2, w5⟩
        · exact c ⟨w1, w2, z, by omega, w4, w5⟩
/-- the sets grow; the reference's row tells the first that holds -/
theorem rD_inv {pp : Nat → Nat → Bool} {nn : Nat} {F : Nat → Int32} {S : Nat → Nat → Bool} (hnn : nn ≤ 64) (h0 : ∀ y, y < nn → F y = if S 0 y = true then nI 0 else -99999999) (hs : ∀ k y, y < nn → S (k + 1) y = (S k y || anyP (fun z => S k z && pp z y) nn)) : ∀ d, d ≤ nn → ∀ y, y < nn → (S d y = false → rD pp nn F d y = -99999999) ∧ (∀ k, k ≤ d → S k y = true → (∀ j, j < k → S j y = false) → rD pp nn F d y = nI k) := by
  have mono : ∀ k y, y < nn → S k y = true → S (k + 1) y = true := fun k y hy h => by rw [hs k y hy, h]; rfl
  intro d
  induction d with
  | zero =>
    intro _ y hy
    constructor
    · intro h; show F y = _; rw [h0 y hy, h]; rfl
    · intro k hk h _
      obtain rfl : k = 0 := by omega
      show F y = _; rw [h0 y hy, if_pos h]
  | succ d ih =>
    intro hd y hy
    have ihd := ih (by omega)
    show (_ → rX pp nn d (rD pp nn F d) nn y = _) ∧ (∀ k, _ → _ → _ → rX pp nn d (rD pp nn F d) nn y = _)
    rw [rX_eq (by omega)]
    constructor
    · intro h
      have h1 : S d y = false := by
        cases z : S d y
        · rfl
        · rw [mono d y hy z] at h; exact absurd h (by decide)
      rw [if_neg ?_]
      · exact (ihd y hy).1 h1
      · rintro ⟨-, -, z, hz, h2, h3⟩
        have h4 : S d z = true := by
          cases w : S d z
          · exact absurd (((ihd z hz).1 w).symm.trans h2) (none_ne (by omega))
          · rfl
        rw [hs d y hy, anyP_t (i := z) hz (by simp [h4, h3])] at h
        simp at h
    · intro k hk h hl
      by_cases e : k ≤ d
      · have := (ihd y hy).2 k e h hl
        rw [if_neg (fun w => none_ne (d := k) (by omega) (w.2.1.symm.trans this)), this]
      · obtain rfl : k = d + 1 := by omega
        have h1 := hl d (by omega)
        have h2 := (ihd y hy).1 h1
        rw [hs d y hy, h1, Bool.false_or, anyP_iff] at h
        obtain ⟨z, hz, h3⟩ := h
        rw [Bool.and_eq_true] at h3
        have h4 : rD pp nn F d z = nI d := (ihd z hz).2 d (by omega) h3.1 (fun j hj => by
          cases w : S j z
          · rfl
          · have := hl (j + 1) (by omega)
            rw [hs j y hy, anyP_t (i := z) hz (by simp [w, h3.2])] at this
            simp at this)
        rw [if_pos ⟨hy, h2, z, hz, h4, h3.2⟩]
theorem cnt_grow {a b : Nat → Bool} {n y : Nat} (h : ∀ i, i < n → a i = true → b i = true) (hy : y < n) (ha : a y = false) (hb : b y = true) : cntP a n + 1 ≤ cntP b n := by
  have le : ∀ n, (∀ i, i < n → a i = true → b i = true) → cntP a n ≤ cntP b n := by
    intro n
    induction n with
    | zero => intro _; exact Nat.le_refl _
    | succ n ih =>
      intro h
      have := ih (fun i hi => h i (by omega))
      have h2 := h n (by omega)
      simp only [cntP]
      cases z : a n
      · simp; omega
      · rw [h2 z]; simp; omega
  induction n with
  | zero => omega
  | succ n ih =>
    by_cases e : y = n
    · subst e
      have := le y (fun i hi => h i (by omega))
      simp only [cntP, ha, hb]; simp; omega
    · have := ih (fun i hi => h i (by omega)) (by omega)
      have h2 := h n (by omega)
      simp only [cntP]
      cases z : a n
      · simp; omega
      · rw [h2 z]; simp; omega
theorem new_cnt {pp : Nat → Nat → Bool} {nn : Nat} {S : Nat → Nat → Bool} (hs : ∀ k y, y < nn → S (k + 1) y = (S k y || anyP (fun z => S k z && pp z y) nn)) : ∀ k y, y < nn → S k y = true → (∀ j, j < k → S j y = false) → k + 1 ≤ cntP (S k) nn := by
  intro k
  induction k with
  | zero =>
    intro y hy h _
    have := cnt_grow (a := fun _ => false) (b := S 0) (n := nn) (fun i _ h => absurd h (by decide)) hy rfl h
    omega
  | succ k ih =>
    intro y hy h hl
    have h1 := hl k (by omega)
    have h5 := h
    rw [hs k y hy, h1, Bool.false_or, anyP_iff] at h
    obtain ⟨z, hz, h3⟩ := h
    rw [Bool.and_eq_true] at h3
    have h4 := ih z hz h3.1 (fun j hj => by
      cases w : S j z
      · rfl
      · have := hl (j + 1) (by omega)
        rw [hs j y hy, anyP_t (i := z) hz (by simp [w, h3.2])] at this
        simp at this)
    have := cnt_grow (a := S k) (b := S (k + 1)) (n := nn) (fun i hi h => by rw [hs k i hi, h]; rfl) hy h1 h5
    omega
theorem least_ex {S : Nat → Bool} : ∀ d, S d = true → ∃ k, k ≤ d ∧ S k = true ∧ ∀ j, j < k → S j = false := by
  intro d
  induction d using Nat.strongRecOn with
  | _ d ih =>
    intro h
    by_cases e : ∃ j, j < d ∧ S j = true
    · obtain ⟨j, h1, h2⟩ := e
      obtain ⟨k, h3, h4⟩ := ih j h1 h2
      exact ⟨k, by omega, h4⟩
    · exact ⟨d, Nat.le_refl _, h, fun j hj => by
        cases z : S j
        · rfl
        · exact absurd ⟨j, hj, z⟩ e⟩
theorem rch_none {W : Nat → Int64} {nn : Nat} {s0 : Int64} {t : Nat} : ∀ f k, (∀ j, k ≤ j → j < k + f → bt (rchL W nn s0 j) t = false) → rchA W nn s0 t k f = -99999999 := by
  intro f
  induction f with
  | zero => intro k _; rfl
  | succ f ih =>
    intro k h
    simp only [rchA]
    rw [h k (by omega) (by omega)]
    simp only [Bool.false_eq_true, if_false]
    exact ih (k + 1) (fun j h1 h2 => h j (by omega) (by omega))
theorem rch_some {W : Nat → Int64} {nn : Nat} {s0 : Int64} {t q : Nat} : ∀ f k, k ≤ q → q < k + f → bt (rchL W nn s0 q) t = true → (∀ j, j < q → bt (rchL W nn s0 j) t = false) → rchA W nn s0 t k f = nI q := by
  intro f
  induction f with
  | zero => intro k h1 h2; omega
  | succ f ih =>
    intro k h1 h2 h3 h4
    simp only [rchA]
    by_cases e : k = q
    · subst e; rw [if_pos h3]
    · rw [h4 k (by omega)]
      simp only [Bool.false_eq_true, if_false]
      exact ih (k + 1) (by omega) (by omega) h3 h4
theorem reach_eq {W : Nat → Int64} {pp : Nat → Nat → Bool} {nn aj bj : Nat} {g : Nat → Int32} (hnn : nn ≤ 64) (ha : aj < nn) (hb : bj < nn) (hp : ∀ f t, f < nn → t < nn → pp f t = bt (W f) t) : rD pp nn (far0 g aj) nn bj = rchA W nn ((1 : Int64) <<< ((nI aj).toInt64 &&& 63)) bj 0 nn := by
  obtain ⟨S, hS⟩ : ∃ S : Nat → Nat → Bool, S = fun k y => bt (rchL W nn ((1 : Int64) <<< ((nI aj).toInt64 &&& 63)) k) y := ⟨_, rfl⟩
  have hs : ∀ k y, y < nn → S (k + 1) y = (S k y || anyP (fun z => S k z && pp z y) nn) := by
    intro k y hy
    simp only [hS, rchL]
    rw [bt_or, led_bt]
    rw [anyP_congr (p := fun z => bt (rchL W nn ((1 : Int64) <<< ((nI aj).toInt64 &&& 63)) k) z && bt (W z) y) (q := fun z => bt (rchL W nn ((1 : Int64) <<< ((nI aj).toInt64 &&& 63)) k) z && pp z y) (fun i hi => by rw [hp i y hi hy])]
  have h0 : ∀ y, y < nn → far0 g aj y = if S 0 y = true then nI 0 else -99999999 := by
    intro y hy
    simp only [hS, rchL, far0]
    rw [bt_1 (by omega) (by omega)]
    by_cases e : y = aj
    · subst e; rw [va_up_self]; simp; rfl
    · rw [va_up_ne _ _ e, if_pos (by omega)]; simp [e]
  have hd := rD_inv hnn h0 hs nn (Nat.le_refl _) bj hb
  have hc := new_cnt hs
  by_cases e : ∃ k, k < nn ∧ S k bj = true
  · obtain ⟨k, h1, h2⟩ := e
    obtain ⟨q, h3, h4, h5⟩ := least_ex (S := fun k => S k bj) k h2
    rw [hd.2 q (by omega) h4 h5]
    subst hS
    exact (rch_some nn 0 (by omega) (by omega) h4 h5).symm
  · have hn : S nn bj = false := by
      cases z : S nn bj
      · rfl
      · have := hc nn bj hb z (fun j hj => by
          cases w : S j bj
          · rfl
          · exact absurd ⟨j, hj, w⟩ e)
        have := cntP_le (S nn) nn
        omega
    rw [hd.1 hn]
    subst hS
    refine (rch_none nn 0 (fun j _ hj => ?_)).symm
    cases w : bt (rchL W nn ((1 : Int64) <<< ((nI aj).toInt64 &&& 63)) j) bj
    · rfl
    · exact absurd ⟨j, by omega, w⟩ e
