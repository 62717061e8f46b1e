/-! The reference: isLike, arc, count -/
theorem tN_end {nn : Nat} : tN (cdp nn (nn + 2)) = -3 := by rw [cdp, if_neg (by omega), show nn + 2 - nn = 2 by omega]; decide +kernel
theorem tN_go : ∀ c, c < 66 → ¬ tN c = -3 := by decide +kernel
theorem cdp_0 {nn : Nat} (h : 0 < nn) : tN (cdp nn 0) = 0 := by rw [cdp, if_pos h]; decide +kernel
def filP (p : Nat → Bool) : Nat → List Nat
  | 0 => []
  | k + 1 => filP p k ++ (if p k then [k] else [])
def lstP {α : Type} (q : Nat → List α) : Nat → List α
  | 0 => []
  | f + 1 => lstP q f ++ q f
theorem filP_lt {p : Nat → Bool} {n i t : Nat} (h : (filP p n)[i]? = some t) : t < n := by
  induction n with
  | zero => simp [filP] at h
  | succ n ih =>
    simp only [filP] at h
    by_cases hi : i < (filP p n).length
    · rw [List.getElem?_append_left hi] at h
      have := ih h; omega
    · rw [List.getElem?_append_right (by omega)] at h
      split at h
      · have := List.mem_of_getElem? h
        simp at this; omega
      · simp at h
theorem filP_get {p : Nat → Bool} {n t : Nat} (ht : t < n) (hp : p t = true) : (filP p n)[(filP p t).length]? = some t := by
  induction n with
  | zero => omega
  | succ n ih =>
    simp only [filP]
    by_cases e : t = n
    · subst e
      rw [List.getElem?_append_right (by omega), if_pos hp, Nat.sub_self]; rfl
    · have h := ih (by omega)
      rw [List.getElem?_append_left (List.getElem?_eq_some_iff.mp h).1]; exact h
theorem filP_len (p : Nat → Bool) (n : Nat) : (filP p n).length = cntP p n := by
  induction n with
  | zero => rfl
  | succ n ih =>
    simp only [filP, cntP, List.length_append, ih]
    cases p n <;> simp
theorem lstP_get {α : Type} {q : Nat → List α} {n f i : Nat} (hf : f < n) (hi : i < (q f).length) : (lstP q n)[(lstP q f).length + i]? = (q f)[i]? := by
  induction n with
  | zero => omega
  | succ n ih =>
    simp only [lstP]
    by_cases e : f = n
    · subst e
      rw [List.getElem?_append_right (by omega), Nat.add_sub_cancel_left]
    · have h := ih (by omega)
      rw [List.getElem?_eq_getElem hi] at h ⊢
      rw [List.getElem?_append_left (List.getElem?_eq_some_iff.mp h).1]; exact h
theorem lstP_len {α : Type} {q : Nat → List α} {b : Nat} (h : ∀ f, (q f).length ≤ b) (n : Nat) : (lstP q n).length ≤ n * b := by
  induction n with
  | zero => simp [lstP]
  | succ n ih =>
    simp only [lstP, List.length_append]
    have := h n
    rw [Nat.succ_mul]; omega
def arcL (p : Nat → Nat → Bool) (nn : Nat) : Nat → List (Nat × Nat) := lstP (fun f => (filP (p f) nn).map (fun t => (f, t)))
def ansL (Lq : List (Nat × Nat)) (kq wq : Int32) : Int32 := if kq < 0 then -99999999 else match Lq[kq.toNatClampNeg]? with
  | some q => if wq = 0 then nI q.1 else nI q.2
  | none => -99999999
theorem ansL_at {Lq : List (Nat × Nat)} {c : Nat} {q : Nat × Nat} {wq : Int32} (hc : c < 2147483648) (h : Lq[c]? = some q) : ansL Lq (nI c) wq = if wq = 0 then nI q.1 else nI q.2 := by
  rw [ansL, if_neg (nI_pos hc), nI_clamp hc, h]
theorem ansL_no {Lq : List (Nat × Nat)} {kq wq : Int32} (h : ∀ i, i < Lq.length → ¬ nI i = kq) (hl : Lq.length < 2147483648) : ansL Lq kq wq = -99999999 := by
  unfold ansL
  split
  · rfl
  · rename_i h0
    obtain ⟨j, hj, rfl⟩ := nI_of h0
    rw [nI_clamp hj]
    have : Lq.length ≤ j := by
      rcases Nat.lt_or_ge j Lq.length with z | z
      · exact absurd rfl (h j z)
      · exact z
    rw [List.getElem?_eq_none this]
theorem arcL_get {p : Nat → Nat → Bool} {nn f t : Nat} (hf : f < nn) (ht : t < nn) (hp : p f t = true) : (arcL p nn nn)[(arcL p nn f).length + cntP (p f) t]? = some (f, t) := by
  have h := filP_get ht hp
  rw [filP_len] at h
  have hl := (List.getElem?_eq_some_iff.mp h).1
  unfold arcL
  rw [lstP_get (q := fun f => (filP (p f) nn).map (fun t => (f, t))) hf (by simpa using hl)]
  show ((filP (p f) nn).map (fun t => (f, t)))[cntP (p f) t]? = some (f, t)
  rw [List.getElem?_map, h]; rfl
theorem arcL_suc {p : Nat → Nat → Bool} {nn f : Nat} : (arcL p nn (f + 1)).length = (arcL p nn f).length + cntP (p f) nn := by
  simp [arcL, lstP, filP_len]
theorem arcL_len {p : Nat → Nat → Bool} {nn f : Nat} : (arcL p nn f).length ≤ f * nn := lstP_len (fun f => by simpa [filP_len] using cntP_le (p f) nn) f
set_option maxHeartbeats 4000000 in
theorem c_X3_isLike (l : Launch) (D : va_G) {K N : Nat → Nat} {R : Nat → Nat → Nat} {I : Nat → Nat → Int32} {J : Nat → Nat → Int64} {sz : Nat} {m : Nat} (mw : MW m K N R) {nv nn s oq kq : Nat} (h4 : I m 4 = nI nv) (hnv : nv < 60) (h0 : I m 0 = nI nn) (hnn : nn ≤ 64) (h1 : I m 1 = nI s) (hs : s ≤ 64) (hoq : oq < 60) (hkq : kq < 64) : XM l D yX3_isLike cX3_isLike 5 (some .boolean) 1 0 0 [.ref m, .int (nI oq), .int (nI kq)] K N R I J sz (Zx (some (.int (bI (lkB J m nn nv oq s kq = true)))) K N R I J sz) := by
  have hmul : s * kq ≤ 4096 := Nat.le_trans (Nat.mul_le_mul hs (show kq ≤ 64 by omega)) (by decide)
  have outer : ∀ (T i : Nat), T + i = s → i ≤ min s (nn - s * kq) → (∀ j, j < i → (fun j => unl J m nn nv oq (s * kq + j)) j = false) → XW l D (fun _ => True) RX3 "isLike" cX3_isLike 5 1 0 0 K sz (Zx (some (.int (bI (lkB J m nn nv oq s kq = true)))) K N R I J sz) 7 [.ref m, .int (nI oq), .int (nI kq), .int (nI (s * kq + i)), .null] [] K N R (I) (J) sz 0 0 := by
    intro T
    induction T with
    | zero =>
      intro i hi hm hg
      refine x_iload_n dX3_isLike_7 rfl ?_
      refine x_aload_n dX3_isLike_8 rfl ?_
      refine x_geti dX3_isLike_9 fl_X3_62 mw.k rfl ?_
      refine x_iload_n dX3_isLike_12 rfl ?_
      refine x_imul dX3_isLike_13 ?_
      refine x_aload_n dX3_isLike_14 rfl ?_
      refine x_geti dX3_isLike_15 fl_X3_62 mw.k rfl ?_
      refine x_iadd dX3_isLike_18 ?_
      refine x_icmp_ge 82 dX3_isLike_19 (by decide) (fun c19 => ?_) (fun c19 => ?_)
      · refine x_iconst (v := (1)) dX3_isLike_82 (by decide +kernel) ?_
        exact x_ri dX3_isLike_83 (by rw [bI_t]; rw [lkB, show min s (nn - s * kq) = i by omega, anyP_f hg]; rfl)
      · refine absurd ?_ c19
        rw [h1, pk_mul, nI_add]; exact nI_le (by omega) (by omega)
    | succ T ih =>
      intro i hi hm hg
      refine x_iload_n dX3_isLike_7 rfl ?_
      refine x_aload_n dX3_isLike_8 rfl ?_
      refine x_geti dX3_isLike_9 fl_X3_62 mw.k rfl ?_
      refine x_iload_n dX3_isLike_12 rfl ?_
      refine x_imul dX3_isLike_13 ?_
      refine x_aload_n dX3_isLike_14 rfl ?_
      refine x_geti dX3_isLike_15 fl_X3_62 mw.k rfl ?_
      refine x_iadd dX3_isLike_18 ?_
      refine x_icmp_ge 82 dX3_isLike_19 (by decide) (fun c19 => ?_) (fun c19 => ?_)
      · rw [h1, pk_mul, nI_add] at c19; exact absurd c19 (nI_ge (by omega) (by omega))
      · refine x_iload_n dX3_isLike_22 rfl ?_
        refine x_aload_n dX3_isLike_23 rfl ?_
        refine x_geti dX3_isLike_24 fl_X3_59 mw.k rfl ?_
        refine x_icmp_ge 82 dX3_isLike_27 (by decide) (fun c27 => ?_) (fun c27 => ?_)
        · have c27 : nn ≤ s * kq + i := by rw [h0] at c27; exact (nI_leI (by omega) (by omega)).mp c27
          refine x_iconst (v := (1)) dX3_isLike_82 (by decide +kernel) ?_
          exact x_ri dX3_isLike_83 (by rw [bI_t]; rw [lkB, show min s (nn - s * kq) = i by omega, anyP_f hg]; rfl)
        · have c27 : s * kq + i < nn := by
            rw [h0] at c27
            rcases Nat.lt_or_ge (s * kq + i) nn with z | z
            · exact z
            · exact absurd (nI_le z (by omega)) c27
          have inner : ∀ (T p : Nat), T + p = nn + 2 → (∀ j, j < p → (itm J m nv (s * kq + i) (cdp nn j) != itm J m oq (s * kq + i) (cdp nn j)) = false) → XW l D (fun _ => True) RX3 "isLike" cX3_isLike 5 1 0 0 K sz (Zx (some (.int (bI (lkB J m nn nv oq s kq = true)))) K N R I J sz) 33 [.ref m, .int (nI oq), .int (nI kq), .int (nI (s * kq + i)), .int (tN (cdp nn p))] [] K N R (I) (J) sz 0 0 := by
            intro T
            induction T with
            | zero =>
              intro p hp hf
              obtain rfl : p = nn + 2 := by omega
              rw [tN_end]
              refine x_iload dX3_isLike_33 rfl ?_
              refine x_bipush (v := (-3)) dX3_isLike_35 (by decide +kernel) ?_
              refine x_icmp_eq 76 dX3_isLike_37 (by decide) (fun c37 => ?_) (fun c37 => ?_)
              · refine x_iinc dX3_isLike_76 rfl rfl (by decide) rfl ?_
                refine x_goto 7 dX3_isLike_79 (by decide) ?_
                refine x_drop 4 ?_
                exact x_eql (by show [_, _, _, Value.int _, _] = _; rw [show s * kq + (i + 1) = s * kq + i + 1 by omega]; simp [nI_1]) (ih (i + 1) (by omega) (by omega) (lt_s hg (by simpa [unl] using anyP_f hf)))
              · exact absurd (by decide +kernel) c37
            | succ T ihq =>
              intro p hp hf
              refine x_iload dX3_isLike_33 rfl ?_
              refine x_bipush (v := (-3)) dX3_isLike_35 (by decide +kernel) ?_
              refine x_icmp_eq 76 dX3_isLike_37 (by decide) (fun c37 => ?_) (fun c37 => ?_)
              · exact absurd c37 (tN_go _ (cdp_lt hnn (by omega)))
              · refine x_aload_n dX3_isLike_40 rfl ?_
                refine x_aload_n dX3_isLike_41 rfl ?_
                refine x_geti dX3_isLike_42 fl_X3_51 mw.k rfl ?_
                refine x_iload_n dX3_isLike_45 rfl ?_
                refine x_iload dX3_isLike_46 rfl ?_
                rw [h4]
                refine x_eV (c_X3_item l D mw (v := nv) (n := s * kq + i) (c := cdp nn p) (by omega) (by omega) (cdp_lt hnn (by omega))) dX3_isLike_48 lk_X3_91 im_X3_item se_X3_item cd_X3_item (by decide) mw.k vcX3 rfl (by decide) rfl (by first | decide | simp [Value.category]) ?_
                refine x_aload_n dX3_isLike_51 rfl ?_
                refine x_iload_n dX3_isLike_52 rfl ?_
                refine x_iload_n dX3_isLike_53 rfl ?_
                refine x_iload dX3_isLike_54 rfl ?_
                refine x_eV (c_X3_item l D mw (v := oq) (n := s * kq + i) (c := cdp nn p) (by omega) (by omega) (cdp_lt hnn (by omega))) dX3_isLike_56 lk_X3_91 im_X3_item se_X3_item cd_X3_item (by decide) mw.k vcX3 rfl (by decide) rfl (by first | decide | simp [Value.category]) ?_
                refine x_lcmp dX3_isLike_59 ?_
                refine x_if_eq 65 dX3_isLike_60 (by decide) (fun c60 => ?_) (fun c60 => ?_)
                · rw [cmp_eq] at c60
                  refine x_aload_n dX3_isLike_65 rfl ?_
                  refine x_iload dX3_isLike_66 rfl ?_
                  refine x_eV (c_X3_following l D mw (n := nn) (p := p) h0 (by omega) hnn (by omega)) dX3_isLike_68 lk_X3_117 im_X3_following se_X3_following cd_X3_following (by decide) mw.k vcX3 rfl (by decide) rfl (by first | decide | simp [Value.category]) ?_
                  refine x_istore dX3_isLike_71 (by decide) rfl ?_
                  refine x_goto 33 dX3_isLike_73 (by decide) ?_
                  exact x_eql rfl (ihq (p + 1) (by omega) (lt_s hf (by simpa using c60)))
                · rw [cmp_eq] at c60
                  refine x_iconst (v := (0)) dX3_isLike_63 (by decide +kernel) ?_
                  exact x_ri dX3_isLike_64 (by rw [bI_f]; rw [lkB, anyP_t (p := fun i => unl J m nn nv oq (s * kq + i)) (i := i) (by omega) (show unl J m nn nv oq (s * kq + i) = true from anyP_t (i := p) (by omega) (by simpa using c60))]; simp)
          refine x_iconst (v := (0)) dX3_isLike_30 (by decide +kernel) ?_
          refine x_istore dX3_isLike_31 (by decide) rfl ?_
          exact x_eql (by show [_, _, _, _, Value.int _] = _; rw [cdp_0 (by omega)]) (inner (nn + 2) 0 rfl (fun j hj => by omega))
  refine XM.of (own := RX3) (nm := "isLike") (by decide +kernel) rfl rfl (by simp [xla, Value.category]) [.ref m, .int (nI oq), .int (nI kq), .null, .null] rfl (Zx.rt bI_rt) ?_
  refine x_aload_n dX3_isLike_0 rfl ?_
  refine x_geti dX3_isLike_1 fl_X3_62 mw.k rfl ?_
  refine x_iload_n dX3_isLike_4 rfl ?_
  refine x_imul dX3_isLike_5 ?_
  refine x_istore_n dX3_isLike_6 (by decide) rfl ?_
  exact x_eql (by show [_, _, _, Value.int _, _] = _; rw [h1, pk_mul]; rfl) (outer s 0 rfl (by omega) (fun j hj => by omega))
