/-! Both sides: bits, items, lists -/
theorem bt_ext {w w' : Int64} (h : ∀ t, t < 64 → bt w t = bt w' t) : w = w' := by
  apply Int64.toBitVec_inj.mp
  exact BitVec.eq_of_getLsbD_eq (fun i hi => h i hi)
theorem bt_ge {w : Int64} {t : Nat} (h : 64 ≤ t) : bt w t = false := BitVec.getLsbD_of_ge _ _ h
theorem bt_xor (a b : Int64) (t : Nat) : bt (a ^^^ b) t = (bt a t != bt b t) := by
  unfold bt; rw [Int64.toBitVec_xor, BitVec.getLsbD_xor]
theorem bt_and (a b : Int64) (t : Nat) : bt (a &&& b) t = (bt a t && bt b t) := by
  unfold bt; rw [Int64.toBitVec_and, BitVec.getLsbD_and]
theorem bt_or (a b : Int64) (t : Nat) : bt (a ||| b) t = (bt a t || bt b t) := by
  unfold bt; rw [Int64.toBitVec_or, BitVec.getLsbD_or]
theorem bt_m1 {t : Nat} (h : t < 64) : bt (-1) t = true := by
  have : ∀ t, t < 64 → bt (-1) t = true := by decide +kernel
  exact this t h
theorem bt_1 {b t : Nat} (hb : b < 64) (ht : t < 64) : bt ((1 : Int64) <<< ((nI b).toInt64 &&& 63)) t = decide (t = b) := by
  have : ∀ b, b < 64 → ∀ t, t < 64 → bt ((1 : Int64) <<< ((nI b).toInt64 &&& 63)) t = decide (t = b) := by decide +kernel
  exact this b hb t ht
theorem it_inj {w w' : Int64} {t t' : Nat} : it w t = it w' t' ↔ bt w t = bt w' t' := by
  unfold it
  cases bt w t <;> cases bt w' t' <;> decide
theorem it_01 {w : Int64} {t : Nat} : it w t = 0 ∨ it w t = 1 := by
  unfold it
  cases bt w t <;> simp
/-- an item, by a version's two rows -/
def itF (A Cc : Nat → Int64) (n c : Nat) : Int64 := if c < 64 then it (A n) c else Cc (n * 2 + (c - 64))
theorem itF_a {A Cc : Nat → Int64} {n c : Nat} (h : c < 64) : itF A Cc n c = it (A n) c := if_pos h
theorem itF_c {A Cc : Nat → Int64} {n c : Nat} : itF A Cc n (64 + c) = Cc (n * 2 + c) := by
  rw [itF, if_neg (by omega), show 64 + c - 64 = c by omega]
theorem itF_word {A Cc A' C' : Nat → Int64} {n : Nat} (h : ∀ c, c < 64 → itF A Cc n c = itF A' C' n c) : A n = A' n := by
  apply bt_ext
  intro t ht
  have := h t ht
  rw [itF_a ht, itF_a ht] at this
  exact it_inj.mp this
theorem stA_bt {w : Int64} {b t : Nat} {v : Int64} (hv : v = 0 ∨ v = 1) (hb : b < 64) (ht : t < 64) : bt (stA w v b) t = if t = b then decide (v = 1) else bt w t := by
  unfold stA
  rw [bt_or, bt_and, bt_xor, bt_m1 ht, bt_1 hb ht]
  have h0 : bt ((0 : Int64) <<< ((nI b).toInt64 &&& 63)) t = false := by
    have : ∀ b, b < 64 → ∀ t, t < 64 → bt ((0 : Int64) <<< ((nI b).toInt64 &&& 63)) t = false := by decide +kernel
    exact this b hb t ht
  rcases hv with rfl | rfl
  · rw [h0]
    by_cases e : t = b
    · subst e; simp
    · simp [e]
  · rw [bt_1 hb ht]
    by_cases e : t = b
    · subst e; simp
    · simp [e]
theorem stA_it {w : Int64} {b t : Nat} {v : Int64} (hv : v = 0 ∨ v = 1) (hb : b < 64) (ht : t < 64) : it (stA w v b) t = if t = b then v else it w t := by
  unfold it
  rw [stA_bt hv hb ht]
  by_cases e : t = b
  · rw [if_pos e, if_pos e]
    rcases hv with rfl | rfl <;> decide
  · rw [if_neg e, if_neg e]
/-- an item of the version that is made, behind a change -/
theorem setm_n {J : Nat → Nat → Int64} {m v n n' c c' : Nat} {x : Int64} (hx : c' < 64 → x = 0 ∨ x = 1) (hn : n < 64) (hn' : n' < 64) (hc : c < 66) (hc' : c' < 66) : itm (setm J m v n' c' x) m v n c = if n = n' ∧ c = c' then x else itm J m v n c := by
  unfold itm setm
  by_cases h : c < 64 <;> by_cases h' : c' < 64
  · rw [if_pos h, if_pos h, if_pos h', va_up_self]
    by_cases e : n = n'
    · subst e
      rw [va_up_self, stA_it (hx h') h' h]
      by_cases e2 : c = c'
      · rw [if_pos e2, if_pos ⟨rfl, e2⟩]
      · rw [if_neg e2, if_neg (fun z => e2 z.2)]
    · rw [va_up_ne _ _ (by omega), if_neg (fun z => e z.1)]
  · rw [if_pos h, if_pos h, if_neg h', va_up_ne _ _ (by omega), if_neg (fun z => by omega)]
  · rw [if_neg h, if_neg h, if_pos h', va_up_ne _ _ (by omega), if_neg (fun z => by omega)]
  · rw [if_neg h, if_neg h, if_neg h', va_up_self]
    by_cases e : n = n' ∧ c = c'
    · obtain ⟨rfl, rfl⟩ := e
      rw [va_up_self, if_pos ⟨rfl, rfl⟩]
    · rw [va_up_ne _ _ (by omega), if_neg e]
theorem cp_n {J : Nat → Nat → Int64} {m v nv n c : Nat} (hv : v < nv) (hn : n < 64) (hc : c < 66) : itm (cpJ J m v nv 64) m nv n c = itm J m v n c := by
  unfold itm
  by_cases h : c < 64
  · rw [if_pos h, if_pos h, cpJ_1, pk_cpy_in (by omega) (by omega)]
    congr 2; omega
  · rw [if_neg h, if_neg h, cpJ_2]
    rcases Nat.lt_or_ge c 65 with z | z
    · obtain rfl : c = 64 := by omega
      rw [pk_cpy_out (by omega), pk_cpy_in (by omega) (by omega)]
      congr 1; omega
    · obtain rfl : c = 65 := by omega
      rw [pk_cpy_in (by omega) (by omega), pk_cpy_out (by omega)]
      congr 1; omega
theorem filP_ext {p q : Nat → Bool} {n : Nat} (h : ∀ i, i < n → p i = q i) : filP p n = filP q n := by
  induction n with
  | zero => rfl
  | succ n ih => simp only [filP]; rw [ih (fun i hi => h i (by omega)), h n (by omega)]
theorem filP_cut {p : Nat → Bool} {n k : Nat} (h : ∀ t, n ≤ t → t < n + k → p t = false) : filP p (n + k) = filP p n := by
  induction k with
  | zero => rfl
  | succ k ih =>
    rw [← Nat.add_assoc]
    simp only [filP]
    rw [h (n + k) (by omega) (by omega), ih (fun t h1 h2 => h t h1 (by omega))]
    simp
theorem filP_map {α : Type} {p : Nat → Bool} {n : Nat} {f g : Nat → α} (h : ∀ t, t < n → f t = g t) : (filP p n).map f = (filP p n).map g := by
  induction n with
  | zero => rfl
  | succ n ih =>
    simp only [filP, List.map_append]
    rw [ih (fun t ht => h t (by omega))]
    cases p n
    · simp
    · simp [h n (by omega)]
theorem lstP_ext {α : Type} {p q : Nat → List α} {n : Nat} (h : ∀ i, i < n → p i = q i) : lstP p n = lstP q n := by
  induction n with
  | zero => rfl
  | succ n ih => simp only [lstP]; rw [ih (fun i hi => h i (by omega)), h n (by omega)]
theorem lstP_cut {α : Type} {p : Nat → List α} {n k : Nat} (h : ∀ t, n ≤ t → t < n + k → p t = []) : lstP p (n + k) = lstP p n := by
  induction k with
  | zero => rfl
  | succ k ih =>
    rw [← Nat.add_assoc]
    simp only [lstP]
    rw [h (n + k) (by omega) (by omega), ih (fun t h1 h2 => h t h1 (by omega))]
    simp
theorem lstP_map {α β : Type} {p : Nat → List α} {f : α → β} {n : Nat} : (lstP p n).map f = lstP (fun i => (p i).map f) n := by
  induction n with
  | zero => rfl
  | succ n ih => simp only [lstP, List.map_append, ih]
theorem arcL_cut {p : Nat → Nat → Bool} {nn : Nat} (hnn : nn ≤ 64) (h : ∀ f t, f < nn → nn ≤ t → t < 64 → p f t = false) : arcL p 64 nn = arcL p nn nn := by
  refine lstP_ext fun f hf => ?_
  have := filP_cut (p := p f) (n := nn) (k := 64 - nn) (fun t h1 h2 => h f t hf h1 (by omega))
  rw [show nn + (64 - nn) = 64 by omega] at this
  rw [this]
theorem fil_a {w : Int64} {p : Nat → Bool} {nn : Nat} (hnn : nn ≤ 64) (h : ∀ t, t < 64 → bt w t = (decide (t < nn) && p t)) : filP (bt w) 64 = filP p nn := by
  obtain ⟨k, hk⟩ : ∃ k, 64 = nn + k := ⟨64 - nn, by omega⟩
  have h2 : ∀ t, t < nn + k → bt w t = (decide (t < nn) && p t) := fun t ht => h t (by omega)
  rw [hk]
  rw [filP_cut (fun t h1 h3 => by rw [h2 t h3, decide_eq_false (by omega)]; rfl)]
  exact filP_ext fun t ht => by rw [h2 t (by omega), decide_eq_true ht]; rfl
theorem fil_2 {p : Nat → Bool} {nn : Nat} : filP p (nn + 2) = filP p nn ++ ((if p nn then [nn] else []) ++ (if p (nn + 1) then [nn + 1] else [])) := by
  rw [← List.append_assoc]; rfl
theorem fil_22 {p : Nat → Bool} : filP p 2 = (if p 0 then [0] else []) ++ (if p 1 then [1] else []) := by simp [filP]
theorem fil_n {w z : Int64} {p : Nat → Bool} {nn n : Nat} (hnn : nn ≤ 64) (hA : filP (bt w) 64 = filP p nn) (hC : filP (bt z) 64 = filP (fun c => p (nn + c)) 2) : (filP (bt w) 64).map (fun t => n * 66 + t) ++ (filP (bt z) 64).map (fun t => n * 66 + 64 + t) = ((filP p (nn + 2)).map (fun p => (n, cdp nn p))).map (fun q : Nat × Nat => q.1 * 66 + q.2) := by
  rw [hA, hC, List.map_map, fil_22, fil_2 (nn := nn), List.map_append (l₁ := filP p nn)]
  have e3 : (filP p nn).map (fun t => n * 66 + t) = (filP p nn).map ((fun q : Nat × Nat => q.1 * 66 + q.2) ∘ fun p => (n, cdp nn p)) := filP_map fun t ht => by simp [cdp, ht]
  rw [e3]
  simp only [Nat.add_zero]
  have app : ∀ (a b c : List Nat), b = c → a ++ b = a ++ c := fun a b c h => by rw [h]
  refine app _ _ _ ?_
  have c1 : cdp nn nn = 64 := by simp [cdp]
  have c2 : cdp nn (nn + 1) = 65 := by rw [cdp, if_neg (by omega)]; omega
  cases p nn <;> cases p (nn + 1) <;> simp [c1, c2]
/-- a set of items by its words, and by its list -/
theorem set_list {A Cc : Nat → Int64} {u : Nat → Nat → Bool} {nn : Nat} (hnn : nn ≤ 64) (hA : ∀ n t, n < nn → t < 64 → bt (A n) t = (decide (t < nn) && u n t)) (hC : ∀ n c, n < nn → c < 64 → bt (Cc n) c = (decide (c < 2) && u n (nn + c))) : fL A Cc nn = (lstP (nodL u nn) nn).map (fun q => q.1 * 66 + q.2) := by
  rw [lstP_map]
  unfold fL
  exact lstP_ext fun n hn => fil_n hnn (fil_a hnn (fun t ht => hA n t hn ht)) (fil_a (by omega) (fun t ht => hC n t hn ht))
theorem fL_cut {A Cc : Nat → Int64} {nn : Nat} (hnn : nn ≤ 64) (h : ∀ n, nn ≤ n → n < 64 → A n = 0 ∧ Cc n = 0) : fL A Cc 64 = fL A Cc nn := by
  have := lstP_cut (p := fun n => (filP (bt (A n)) 64).map (fun t => n * 66 + t) ++ (filP (bt (Cc n)) 64).map (fun t => n * 66 + 64 + t)) (n := nn) (k := 64 - nn) (fun t h1 h2 => by
    have e0 : filP (bt 0) 64 = [] := by decide +kernel
    rw [(h t h1 (by omega)).1, (h t h1 (by omega)).2, e0]; rfl)
  rw [show nn + (64 - nn) = 64 by omega] at this
  exact this
theorem fL_ext {A Cc A' C' : Nat → Int64} {nn : Nat} (h : ∀ n, n < nn → A n = A' n ∧ Cc n = C' n) : fL A Cc nn = fL A' C' nn :=
  lstP_ext fun n hn => by rw [(h n hn).1, (h n hn).2]
theorem nod_mem {u : Nat → Nat → Bool} {nn i : Nat} {q : Nat × Nat} (hnn : nn ≤ 64) (h : (lstP (nodL u nn) nn)[i]? = some q) : q.1 < nn ∧ q.2 < 66 ∧ ∃ p, p < nn + 2 ∧ q.2 = cdp nn p ∧ u q.1 p = true := by
  have hm : ∀ k, ∀ q ∈ lstP (nodL u nn) k, q.1 < k ∧ ∃ p, p < nn + 2 ∧ q.2 = cdp nn p ∧ u q.1 p = true := by
    intro k
    induction k with
    | zero => intro q hq; simp [lstP] at hq
    | succ k ih =>
      intro q hq
      simp only [lstP, List.mem_append] at hq
      rcases hq with hq | hq
      · exact ⟨by have := (ih q hq).1; omega, (ih q hq).2⟩
      · simp only [nodL, List.mem_map] at hq
        obtain ⟨p, hp, rfl⟩ := hq
        obtain ⟨i, hi⟩ := List.getElem?_of_mem hp
        refine ⟨by simp, p, filP_lt hi, rfl, ?_⟩
        have hx : ∀ n, ∀ p ∈ filP (u k) n, u k p = true := by
          intro n
          induction n with
          | zero => intro p hp; simp [filP] at hp
          | succ n ih2 =>
            intro p hp
            simp only [filP, List.mem_append] at hp
            rcases hp with hp | hp
            · exact ih2 p hp
            · by_cases z : u k n = true
              · rw [if_pos z] at hp
                simp at hp; rw [hp]; exact z
              · rw [if_neg z] at hp; simp at hp
        exact hx _ p hp
  have := hm nn q (List.mem_of_getElem? h)
  obtain ⟨h1, p, h2, h3, h4⟩ := this
  exact ⟨h1, by rw [h3]; exact cdp_lt hnn h2, p, h2, h3, h4⟩
theorem mem_nod {u : Nat → Nat → Bool} {nn n p : Nat} (hn : n < nn) (hp : p < nn + 2) (h : u n p = true) : ∃ i : Nat, (lstP (nodL u nn) nn)[i]? = some (n, cdp nn p) := by
  have hm : (n, cdp nn p) ∈ lstP (nodL u nn) nn := by
    have h1 : ∀ k, n < k → (n, cdp nn p) ∈ lstP (nodL u nn) k := by
      intro k
      induction k with
      | zero => intro z; omega
      | succ k ih =>
        intro z
        simp only [lstP, List.mem_append]
        by_cases e : n = k
        · subst e
          right
          simp only [nodL, List.mem_map]
          exact ⟨p, List.mem_of_getElem? (filP_get hp h), rfl⟩
        · left; exact ih (by omega)
    exact h1 nn hn
  exact List.getElem?_of_mem hm
