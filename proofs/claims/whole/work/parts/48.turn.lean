/-! Both sides: turn -/
section
variable {x m : Nat} {K N K2 N2 : Nat → Nat} {R R2 : Nat → Nat → Nat} {I I2 Im X : Nat → Nat → Int32} {J J2 Jm : Nat → Nat → Int64} {nn s nc nv ce ce2 sz sz2 : Nat} {Dk Dk2 : Nat → Int32} {par : Int32}
theorem MS.dk (h : MS m nv ce2 par Dk Im X) (e : ∀ k, k < 64 → Dk k = Dk2 k) : MS m nv ce2 par Dk2 Im X := by
  obtain ⟨h1, h2, h3, h4, h5⟩ := h
  exact ⟨h1, h2, h3, fun k hk => by rw [h4 k hk, e k hk], h5⟩
theorem cnt_ext {p q : Nat → Bool} {a b : Nat} (h : ∀ i, i < a → p i = q i) (hab : a ≤ b) (hz : ∀ i, a ≤ i → i < b → p i = false) : cntP p b = cntP q a := by
  obtain ⟨d, rfl⟩ : ∃ d, b = a + d := ⟨b - a, by omega⟩
  rw [cntP_add, cntP_congr h]
  have : ∀ n, n ≤ d → cntP (fun i => p (a + i)) n = 0 := by
    intro n
    induction n with
    | zero => intro _; rfl
    | succ n ih =>
      intro hn
      simp only [cntP]
      rw [ih (by omega)]
      simp only [hz (a + n) (by omega) (by omega)]
      rfl
  rw [this d (Nat.le_refl _)]
  rfl
/-- the chunks that the first k rows change -/
def tnF (Jm : Nat → Nat → Int64) (m v s : Nat) (nd cd : Nat → Nat) (k : Nat) : Nat → Bool := fun j => anyP (fun i => (itm Jm m v (nd i) (cd i) != Jm (m + 10) i) && (nd i / s == j)) k
theorem tn_ids {v rm : Nat} {nd cd : Nat → Nat} (hv : v < nv) (h5 : Im m 5 = nI ce) (hnc : nc ≤ 64) (hq : ∀ k, k < rm → nd k / s < nc) (hmo : ∀ i k, i < k → k < rm → nd i ≤ nd k) : ∀ k, k ≤ rm → MS m nv (ce + cntP (tnF Jm m v s nd cd k) nc) (nI v) (fun j => if tnF Jm m v s nd cd k j = true then nI (ce + cntP (tnF Jm m v s nd cd k) j) else Im (m + 3) (64 * v + j)) Im (tnI Im Jm m v nv s nd cd k) ∧ ((tnL Jm m v s nd cd k = -99999999 ∧ ∀ j, tnF Jm m v s nd cd k j = false) ∨ ∃ L, L < 64 ∧ tnL Jm m v s nd cd k = nI L ∧ tnF Jm m v s nd cd k L = true ∧ ∀ j, tnF Jm m v s nd cd k j = true → j ≤ L) := by
  intro k
  induction k with
  | zero =>
    intro _
    have f0 : ∀ j, tnF Jm m v s nd cd 0 j = false := fun j => rfl
    have c0 : cntP (tnF Jm m v s nd cd 0) nc = 0 := by
      exact cnt_ext (q := fun _ => false) (a := 0) (b := nc) (fun i hi => by omega) (by omega) (fun i _ _ => f0 i)
    refine ⟨?_, Or.inl ⟨rfl, f0⟩⟩
    rw [c0]
    exact (MS.cp h5 hv).dk fun j _ => by rw [if_neg (by rw [f0]; decide)]
  | succ k ih =>
    intro hk
    obtain ⟨ihm, ihl⟩ := ih (by omega)
    by_cases c : itm Jm m v (nd k) (cd k) = Jm (m + 10) k
    · have fe : tnF Jm m v s nd cd (k + 1) = tnF Jm m v s nd cd k := by
        funext j
        simp only [tnF, anyP]
        simp [c]
      rw [fe]
      simp only [tnI, tnL]
      rw [if_pos c, if_pos c]
      exact ⟨ihm, ihl⟩
    · have fe : ∀ j, tnF Jm m v s nd cd (k + 1) j = (tnF Jm m v s nd cd k j || (j == nd k / s)) := by
        intro j
        simp only [tnF, anyP]
        have : (itm Jm m v (nd k) (cd k) != Jm (m + 10) k) = true := by simp [c]
        rw [this, Bool.true_and]
        congr 1
        exact Bool.beq_comm
      have fle : ∀ j, tnF Jm m v s nd cd k j = true → j ≤ nd k / s := by
        intro j hj
        simp only [tnF] at hj
        rw [anyP_iff] at hj
        obtain ⟨i, hi, e⟩ := hj
        rw [Bool.and_eq_true] at e
        have : nd i / s = j := eq_of_beq e.2
        rw [← this]
        exact Nat.div_le_div_right (hmo i k hi (by omega))
      have hqk := hq k (by omega)
      simp only [tnI, tnL]
      rw [if_neg c, if_neg c]
      by_cases t : nI (nd k / s) = tnL Jm m v s nd cd k
      · rw [if_pos t]
        rcases ihl with ⟨l1, l2⟩ | ⟨L, l0, l1, l2, l3⟩
        · exact absurd (l1.symm.trans t.symm) (none_ne (by omega))
        · rw [l1] at t
          have : nd k / s = L := (nI_eq (by omega) (by omega)).mp t
          have fe2 : tnF Jm m v s nd cd (k + 1) = tnF Jm m v s nd cd k := by
            funext j
            rw [fe j]
            by_cases z : j = L
            · subst z; rw [l2]; rfl
            · have : (j == nd k / s) = false := by rw [this]; simp [z]
              rw [this]; simp
          rw [fe2]
          refine ⟨ihm, Or.inr ⟨L, l0, by rw [this], l2, l3⟩⟩
      · rw [if_neg t]
        have fq : tnF Jm m v s nd cd k (nd k / s) = false := by
          cases z : tnF Jm m v s nd cd k (nd k / s)
          · rfl
          · rcases ihl with ⟨l1, l2⟩ | ⟨L, l0, l1, l2, l3⟩
            · rw [l2] at z; exact absurd z (by decide)
            · have a1 := l3 _ z
              have a2 := fle _ l2
              exact absurd (by rw [l1, show L = nd k / s by omega]) t
        have flt : ∀ j, nd k / s ≤ j → tnF Jm m v s nd cd k j = false := by
          intro j hj
          cases z : tnF Jm m v s nd cd k j
          · rfl
          · have := fle j z
            obtain rfl : j = nd k / s := by omega
            rw [fq] at z; exact absurd z (by decide)
        have flo : ∀ j, j < nd k / s → tnF Jm m v s nd cd (k + 1) j = tnF Jm m v s nd cd k j := fun j hj => by
          rw [fe j, show (j == nd k / s) = false by simp; omega]; simp
        have cq : cntP (tnF Jm m v s nd cd k) nc = cntP (tnF Jm m v s nd cd (k + 1)) (nd k / s) :=
          cnt_ext (fun i hi => (flo i hi).symm) (by omega) (fun i h1 _ => flt i h1)
        have cn : cntP (tnF Jm m v s nd cd (k + 1)) nc = cntP (tnF Jm m v s nd cd k) nc + 1 := by
          rw [cntP_two (p := tnF Jm m v s nd cd (k + 1)) (q := tnF Jm m v s nd cd k) (r := fun i => i == nd k / s) nc, cnt_one, if_pos hqk]
          intro i _
          refine ⟨fe i, ?_⟩
          by_cases z : i = nd k / s
          · subst z; rw [fq]; rfl
          · rw [show (i == nd k / s) = false by simp [z]]; simp
        refine ⟨?_, Or.inr ⟨nd k / s, by omega, rfl, by rw [fe, fq]; simp, fun j hj => ?_⟩⟩
        · rw [cn, ← Nat.add_assoc]
          refine (ihm.fr (k := nd k / s) (by omega)).dk fun j hj => ?_
          by_cases z : j = nd k / s
          · subst z
            rw [va_up_self, if_pos (by rw [fe, fq]; simp), cq]
          · rw [va_up_ne _ _ z]
            by_cases z2 : j < nd k / s
            · rw [flo j z2, cntP_congr (p := tnF Jm m v s nd cd (k + 1)) (q := tnF Jm m v s nd cd k) (n := j) (fun i hi => flo i (by omega))]
            · have f1 := flt j (by omega)
              rw [fe j, f1, show (j == nd k / s) = false by simp [z]]
              simp
        · rw [fe j] at hj
          by_cases z : tnF Jm m v s nd cd k j = true
          · exact fle j z
          · rw [Bool.eq_false_iff.mpr z, Bool.false_or] at hj
            have := eq_of_beq hj
            omega
theorem tn_items {v rm : Nat} {nd cd : Nat → Nat} {cb : Nat} (hv : v < nv) (hb : ∀ k, k < rm → nd k < 64 ∧ cd k < 66 ∧ Jm (m + 10) k = itm Jm m cb (nd k) (cd k)) : ∀ k, k ≤ rm → ∀ n c, n < 64 → c < 66 → itm (tnJ Jm m v nv nd cd k) m nv n c = if (∃ j, j < k ∧ nd j = n ∧ cd j = c) then itm Jm m cb n c else itm Jm m v n c := by
  intro k
  induction k with
  | zero =>
    intro _ n c hn hc
    rw [if_neg (by rintro ⟨j, z, -⟩; omega)]
    exact cp_n hv hn hc
  | succ k ih =>
    intro hk n c hn hc
    obtain ⟨b1, b2, b3⟩ := hb k (by omega)
    simp only [tnJ]
    have ihk := ih (by omega) n c hn hc
    by_cases e : n = nd k ∧ c = cd k
    · obtain ⟨rfl, rfl⟩ := e
      rw [if_pos (show ∃ j, j < k + 1 ∧ nd j = nd k ∧ cd j = cd k from ⟨k, by omega, rfl, rfl⟩)]
      by_cases z : itm Jm m v (nd k) (cd k) = Jm (m + 10) k
      · rw [if_pos z, ihk]
        by_cases y : ∃ j, j < k ∧ nd j = nd k ∧ cd j = cd k
        · rw [if_pos y]
        · rw [if_neg y, z, b3]
      · rw [if_neg z, setm_n (fun q => by rw [b3, itm_a q]; exact it_01) hn hn hc hc, if_pos ⟨rfl, rfl⟩, b3]
    · have ee : (∃ j, j < k + 1 ∧ nd j = n ∧ cd j = c) ↔ (∃ j, j < k ∧ nd j = n ∧ cd j = c) := by
        constructor
        · rintro ⟨j, j1, j2, j3⟩
          by_cases z : j = k
          · subst z; exact absurd ⟨j2.symm, j3.symm⟩ e
          · exact ⟨j, by omega, j2, j3⟩
        · rintro ⟨j, j1, j2⟩; exact ⟨j, by omega, j2⟩
      simp only [ee]
      rw [← ihk]
      by_cases z : itm Jm m v (nd k) (cd k) = Jm (m + 10) k
      · rw [if_pos z]
      · rw [if_neg z, setm_n (fun q => by rw [b3, itm_a q]; exact it_01) hn b1 hc b2, if_neg e]
theorem tn_old {v rm w : Nat} {nd cd : Nat → Nat} (hv : v < nv) (hw : w < nv) (hb : ∀ k, k < rm → nd k < 64 ∧ cd k < 66) : ∀ k, k ≤ rm → ∀ n c, n < 64 → c < 66 → itm (tnJ Jm m v nv nd cd k) m w n c = itm Jm m w n c := by
  intro k
  induction k with
  | zero => intro _ n c hn hc; exact itm_cp2 hv hw hn hc
  | succ k ih =>
    intro hk n c hn hc
    obtain ⟨b1, b2⟩ := hb k (by omega)
    simp only [tnJ]
    by_cases z : itm Jm m v (nd k) (cd k) = Jm (m + 10) k
    · rw [if_pos z]; exact ih (by omega) n c hn hc
    · rw [if_neg z, setm_i hw hn b1 hc b2]; exact ih (by omega) n c hn hc
theorem lst_sorted {f : Nat → List (Nat × Nat)} (hf : ∀ n, ∀ q ∈ f n, q.1 = n) : ∀ n, List.Pairwise (fun a b : Nat × Nat => a.1 ≤ b.1) (lstP f n) ∧ ∀ q ∈ lstP f n, q.1 < n := by
  intro n
  induction n with
  | zero => exact ⟨List.Pairwise.nil, fun q hq => by simp [lstP] at hq⟩
  | succ n ih =>
    simp only [lstP]
    constructor
    · rw [List.pairwise_append]
      refine ⟨ih.1, ?_, fun a ha b hb => ?_⟩
      · rw [List.pairwise_iff_getElem]
        intro i j hi hj _
        rw [hf n _ (List.getElem_mem hi), hf n _ (List.getElem_mem hj)]
        exact Nat.le_refl _
      · have := ih.2 a ha
        rw [hf n b hb]; omega
    · intro q hq
      rw [List.mem_append] at hq
      rcases hq with hq | hq
      · have := ih.2 q hq; omega
      · rw [hf n q hq]; omega
theorem row_sorted {va vb i j : Nat} {q q' : Nat × Nat} (h1 : (rowL Jm m nn va vb)[i]? = some q) (h2 : (rowL Jm m nn va vb)[j]? = some q') (hij : i < j) : q.1 ≤ q'.1 := by
  have h := (lst_sorted (f := nodL (uR Jm m nn va vb) nn) (fun n q hq => by
    simp only [nodL, List.mem_map] at hq
    obtain ⟨p, -, rfl⟩ := hq
    rfl) nn).1
  rw [List.pairwise_iff_getElem] at h
  obtain ⟨l1, e1⟩ := List.getElem?_eq_some_iff.mp h1
  obtain ⟨l2, e2⟩ := List.getElem?_eq_some_iff.mp h2
  have := h i j l1 l2 hij
  unfold rowL at e1 e2
  rw [e1, e2] at this
  exact this
/-- a chunk differs where one of its items does -/
theorem neK_iff {A' C' A Cc : Nat → Int64} {j : Nat} (hs : 0 < s) : neK A' C' A Cc s nn j = true ↔ ∃ n, n < nn ∧ n / s = j ∧ ∃ c, c < 66 ∧ itF A' C' n c ≠ itF A Cc n c := by
  unfold neK
  rw [anyP_iff]
  have hd : ∀ n, (j * s ≤ n ∧ n < j * s + s) ↔ n / s = j := by
    intro n
    rw [Nat.div_eq_iff hs]
    constructor
    · rintro ⟨a, b⟩; omega
    · rintro ⟨a, b⟩; omega
  constructor
  · rintro ⟨n, h1, h2⟩
    unfold akF at h2
    rw [Bool.and_eq_true, decide_eq_true_eq, hd] at h2
    refine ⟨n, h1, h2.1, ?_⟩
    have h3 := h2.2
    rw [Bool.or_eq_true, Bool.or_eq_true] at h3
    rcases h3 with h3 | h3 | h3
    · by_cases z : ∃ c, c < 66 ∧ itF A' C' n c ≠ itF A Cc n c
      · exact z
      · have : A' n = A n := itF_word (Cc := C') (C' := Cc) fun c hc => by
          by_cases y : itF A' C' n c = itF A Cc n c
          · exact y
          · exact absurd ⟨c, by omega, y⟩ z
        rw [this] at h3
        simp at h3
    · refine ⟨64 + 0, by omega, ?_⟩
      rw [itF_c, itF_c]
      simpa using h3
    · refine ⟨64 + 1, by omega, ?_⟩
      rw [itF_c, itF_c]
      simpa using h3
  · rintro ⟨n, h1, h2, c, h3, h4⟩
    refine ⟨n, h1, ?_⟩
    unfold akF
    rw [Bool.and_eq_true, decide_eq_true_eq, hd]
    refine ⟨h2, ?_⟩
    rw [Bool.or_eq_true, Bool.or_eq_true]
    by_cases z : c < 64
    · left
      rw [itF_a z, itF_a z] at h4
      have : A' n ≠ A n := fun y => h4 (by rw [y])
      simpa using this
    · right
      by_cases y : c = 64 + 0
      · left; subst y; rw [itF_c, itF_c] at h4; simpa using h4
      · right
        obtain rfl : c = 64 + 1 := by omega
        rw [itF_c, itF_c] at h4; simpa using h4
end
