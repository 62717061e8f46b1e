/-! The reference: rows, graph -/
def wrL {α β : Type} (f : β → α) (Lq : List β) (g : Nat → α) : Nat → α := fun i => match Lq[i]? with
  | some q => f q
  | none => g i
theorem wrL_nil {α β : Type} (f : β → α) (g : Nat → α) : wrL f [] g = g := by funext i; simp [wrL]
theorem wrL_add {α β : Type} (f : β → α) (Lq : List β) (g : Nat → α) (q : β) : va_up (wrL f Lq g) Lq.length (f q) = wrL f (Lq ++ [q]) g := by
  funext i
  by_cases h : i = Lq.length
  · subst h; rw [va_up_self]; simp [wrL]
  · rw [va_up_ne _ _ h]
    simp only [wrL]
    rcases Nat.lt_or_ge i Lq.length with z | z
    · rw [List.getElem?_append_left z]
    · rw [List.getElem?_eq_none z, List.getElem?_append_right z, List.getElem?_eq_none (by simp; omega)]
theorem wrL_at {α β : Type} {f : β → α} {Lq : List β} {g : Nat → α} {i : Nat} {q : β} (h : Lq[i]? = some q) : wrL f Lq g i = f q := by simp [wrL, h]
theorem itm_congr {J J' : Nat → Nat → Int64} {m v n c : Nat} (h1 : J' (m + 1) = J (m + 1)) (h2 : J' (m + 2) = J (m + 2)) : itm J' m v n c = itm J m v n c := by unfold itm; rw [h1, h2]
/-- all items of one node that a test takes; of the nodes below n -/
def nodL (u : Nat → Nat → Bool) (nn n : Nat) : List (Nat × Nat) := (filP (u n) (nn + 2)).map (fun p => (n, cdp nn p))
def preL (u : Nat → Nat → Bool) (nn n p : Nat) : List (Nat × Nat) := lstP (nodL u nn) n ++ (filP (u n) p).map (fun p => (n, cdp nn p))
theorem preL_0 {u : Nat → Nat → Bool} {nn n : Nat} : preL u nn n 0 = lstP (nodL u nn) n := by simp [preL, filP]
theorem preL_end {u : Nat → Nat → Bool} {nn n : Nat} : preL u nn n (nn + 2) = lstP (nodL u nn) (n + 1) := rfl
theorem preL_t {u : Nat → Nat → Bool} {nn n p : Nat} (h : u n p = true) : preL u nn n (p + 1) = preL u nn n p ++ [(n, cdp nn p)] := by simp [preL, filP, h]
theorem preL_f {u : Nat → Nat → Bool} {nn n p : Nat} (h : u n p = false) : preL u nn n (p + 1) = preL u nn n p := by simp [preL, filP, h]
theorem nodL_len {u : Nat → Nat → Bool} {nn n : Nat} : (nodL u nn n).length ≤ nn + 2 := by simpa [nodL, filP_len] using cntP_le (u n) (nn + 2)
theorem preL_len {u : Nat → Nat → Bool} {nn n p : Nat} (hn : nn ≤ 64) (hl : n < nn) (hp : p < nn + 2) : (preL u nn n p).length < 4224 := by
  have h1 : (lstP (nodL u nn) n).length ≤ n * (nn + 2) := lstP_len (fun f => nodL_len) n
  have h2 : (preL u nn n p).length = (lstP (nodL u nn) n).length + cntP (u n) p := by simp [preL, filP_len]
  have h3 := cntP_le (u n) p
  have h4 : n * (nn + 2) ≤ 63 * (nn + 2) := Nat.mul_le_mul_right _ (by omega)
  omega
def rwI (I : Nat → Nat → Int32) (m : Nat) (Lq : List (Nat × Nat)) : Nat → Nat → Int32 := va_up (va_up (va_up I m (va_up (va_up (I m) 12 1) 13 (nI Lq.length))) (m + 7) (wrL (fun q => nI q.1) Lq (I (m + 7)))) (m + 8) (wrL (fun q => tN q.2) Lq (I (m + 8)))
def rwJ (J : Nat → Nat → Int64) (m va vb : Nat) (Lq : List (Nat × Nat)) : Nat → Nat → Int64 := va_up (va_up J (m + 9) (wrL (fun q => itm J m va q.1 q.2) Lq (J (m + 9)))) (m + 10) (wrL (fun q => itm J m vb q.1 q.2) Lq (J (m + 10)))
theorem rwI_m {I : Nat → Nat → Int32} {m : Nat} {Lq : List (Nat × Nat)} : rwI I m Lq m = va_up (va_up (I m) 12 1) 13 (nI Lq.length) := by simp [rwI, va_up]
theorem rwI_0 {I : Nat → Nat → Int32} {m : Nat} {Lq : List (Nat × Nat)} : rwI I m Lq m 0 = I m 0 := by simp [rwI, va_up]
theorem rwI_13 {I : Nat → Nat → Int32} {m : Nat} {Lq : List (Nat × Nat)} : rwI I m Lq m 13 = nI Lq.length := by simp [rwI, va_up]
theorem rwJ_i {J : Nat → Nat → Int64} {m va vb v n c : Nat} {Lq : List (Nat × Nat)} : itm (rwJ J m va vb Lq) m v n c = itm J m v n c := itm_congr (by simp [rwJ, va_up]) (by simp [rwJ, va_up])
theorem rwI_nil {I : Nat → Nat → Int32} {m : Nat} : va_up (va_up I m (va_up (I m) 12 1)) m (va_up (va_up I m (va_up (I m) 12 1) m) 13 0) = rwI I m [] := by
  rw [rwI, wrL_nil, wrL_nil, va_up_up, va_up_self]
  have e1 : ∀ F : Nat → Int32, va_up (va_up I m F) (m + 7) (I (m + 7)) = va_up I m F := fun F => by
    have := va_up_id (va_up I m F) (m + 7)
    rwa [va_up_ne _ _ (by omega)] at this
  have e2 : ∀ F : Nat → Int32, va_up (va_up I m F) (m + 8) (I (m + 8)) = va_up I m F := fun F => by
    have := va_up_id (va_up I m F) (m + 8)
    rwa [va_up_ne _ _ (by omega)] at this
  rw [e1, e2]; rfl
theorem rwJ_nil {J : Nat → Nat → Int64} {m va vb : Nat} : rwJ J m va vb [] = J := by rw [rwJ, wrL_nil, wrL_nil, va_up_id, va_up_id]
theorem rwI_step {I : Nat → Nat → Int32} {m n c : Nat} {Lq : List (Nat × Nat)} {F F8 : Nat → Int32} (h8 : F8 = va_up (rwI I m Lq (m + 8)) Lq.length (tN c)) (hF : F = va_up (rwI I m Lq m) 13 (nI Lq.length + 1)) :
    va_up (va_up (va_up (rwI I m Lq) (m + 7) (va_up (rwI I m Lq (m + 7)) Lq.length (nI n))) (m + 8) F8) m F = rwI I m (Lq ++ [(n, c)]) := by
  subst h8
  have e7 : rwI I m Lq (m + 7) = wrL (fun q => nI q.1) Lq (I (m + 7)) := by simp [rwI, va_up]
  have e8 : rwI I m Lq (m + 8) = wrL (fun q => tN q.2) Lq (I (m + 8)) := by simp [rwI, va_up]
  have eF : F = va_up (va_up (I m) 12 1) 13 (nI (Lq ++ [(n, c)]).length) := by
    rw [hF, rwI_m, va_up_up, nI_1, List.length_append]; rfl
  rw [e7, e8, show nI n = (fun q : Nat × Nat => nI q.1) (n, c) from rfl, show tN c = (fun q : Nat × Nat => tN q.2) (n, c) from rfl, wrL_add, wrL_add, eF]
  funext r
  by_cases h0 : r = m
  · subst h0; simp [rwI, va_up]
  · by_cases h7 : r = m + 7
    · subst h7; simp [rwI, va_up]
    · by_cases h8 : r = m + 8
      · subst h8; simp [rwI, va_up]
      · simp [rwI, va_up, h0, h7, h8]
theorem rwJ_step {J : Nat → Nat → Int64} {m va vb n c : Nat} {Lq : List (Nat × Nat)} {F : Nat → Int64} (hF : F = va_up (rwJ J m va vb Lq (m + 10)) Lq.length (itm J m vb n c)) :
    va_up (va_up (rwJ J m va vb Lq) (m + 9) (va_up (rwJ J m va vb Lq (m + 9)) Lq.length (itm J m va n c))) (m + 10) F = rwJ J m va vb (Lq ++ [(n, c)]) := by
  subst hF
  have e7 : rwJ J m va vb Lq (m + 9) = wrL (fun q => itm J m va q.1 q.2) Lq (J (m + 9)) := by simp [rwJ, va_up]
  have e8 : rwJ J m va vb Lq (m + 10) = wrL (fun q => itm J m vb q.1 q.2) Lq (J (m + 10)) := by simp [rwJ, va_up]
  rw [e7, e8, show itm J m va n c = (fun q : Nat × Nat => itm J m va q.1 q.2) (n, c) from rfl, show itm J m vb n c = (fun q : Nat × Nat => itm J m vb q.1 q.2) (n, c) from rfl, wrL_add, wrL_add]
  funext r
  by_cases h7 : r = m + 9
  · subst h7; simp [rwJ, va_up]
  · by_cases h8 : r = m + 10
    · subst h8; simp [rwJ, va_up]
    · simp [rwJ, va_up, h7, h8]
def uR (J : Nat → Nat → Int64) (m nn va vb : Nat) : Nat → Nat → Bool := fun n p => itm J m va n (cdp nn p) != itm J m vb n (cdp nn p)
def rowL (J : Nat → Nat → Int64) (m nn va vb : Nat) : List (Nat × Nat) := lstP (nodL (uR J m nn va vb) nn) nn
set_option maxHeartbeats 4000000 in
theorem c_X3_rows (l : Launch) (D : va_G) {K N : Nat → Nat} {R : Nat → Nat → Nat} {I : Nat → Nat → Int32} {J : Nat → Nat → Int64} {sz : Nat} {m : Nat} (mw : MW m K N R) {nv nn : Nat} (h4 : I m 4 = nI nv) (hnv : nv ≤ 60) (h0 : I m 0 = nI nn) (hnn : nn ≤ 64) (qv qa : Int32) : XM l D yX3_rows cX3_rows 5 (some .int) 2 0 0 [.ref m, .int qv, .int qa] K N R I J sz (Zx (some (.int (if pV I m nv qv ∧ pV I m nv qa then nI (rowL J m nn qv.toNatClampNeg qa.toNatClampNeg).length else -1))) K N R (if pV I m nv qv ∧ pV I m nv qa then rwI I m (rowL J m nn qv.toNatClampNeg qa.toNatClampNeg) else I) (if pV I m nv qv ∧ pV I m nv qa then rwJ J m qv.toNatClampNeg qa.toNatClampNeg (rowL J m nn qv.toNatClampNeg qa.toNatClampNeg) else J) sz) := by
  refine XM.of (own := RX3) (nm := "rows") (by decide +kernel) rfl rfl (by simp [xla, Value.category]) [.ref m, .int qv, .int qa, .null, .null] rfl (Zx.rt ⟨_, rfl⟩) ?_
  refine x_aload_n dX3_rows_0 rfl ?_
  refine x_iload_n dX3_rows_1 rfl ?_
  refine x_eV (c_X3_isVersion l D mw h4 hnv _) dX3_rows_2 lk_X3_106 im_X3_isVersion se_X3_isVersion cd_X3_isVersion (by decide) mw.k vcX3 rfl (by decide) rfl (by first | decide | simp [Value.category]) ?_
  refine x_if_eq 16 dX3_rows_5 (by decide) (fun c5 => ?_) (fun c5 => ?_)
  · rw [bI_e0] at c5
    refine x_iconst (v := (-1)) dX3_rows_16 (by decide +kernel) ?_
    exact x_zi dX3_rows_17 ⟨by rw [if_neg (by rintro ⟨z1, z2⟩; first | exact c5 z1 | exact c13 z2)], rfl, rfl, rfl, by rw [if_neg (by rintro ⟨z1, z2⟩; first | exact c5 z1 | exact c13 z2)], by rw [if_neg (by rintro ⟨z1, z2⟩; first | exact c5 z1 | exact c13 z2)], rfl⟩
  · rw [bI_n0] at c5
    obtain ⟨vj, hvj, rfl⟩ := pN_ex c5.1
    refine x_aload_n dX3_rows_8 rfl ?_
    refine x_iload_n dX3_rows_9 rfl ?_
    refine x_eV (c_X3_isVersion l D mw h4 hnv _) dX3_rows_10 lk_X3_106 im_X3_isVersion se_X3_isVersion cd_X3_isVersion (by decide) mw.k vcX3 rfl (by decide) rfl (by first | decide | simp [Value.category]) ?_
    refine x_if_ne 18 dX3_rows_13 (by decide) (fun c13 => ?_) (fun c13 => ?_)
    · rw [bI_n0] at c13
      obtain ⟨aj, haj, rfl⟩ := pN_ex c13.1
      have hG : pV I m nv (nI vj) ∧ pV I m nv (nI aj) := ⟨c5, c13⟩
      have outer : ∀ (T n : Nat), T + n = nn → XW l D (fun _ => True) RX3 "rows" cX3_rows 5 2 0 0 K sz (Zx (some (.int (if pV I m nv (nI vj) ∧ pV I m nv (nI aj) then nI (rowL J m nn (nI vj).toNatClampNeg (nI aj).toNatClampNeg).length else -1))) K N R (if pV I m nv (nI vj) ∧ pV I m nv (nI aj) then rwI I m (rowL J m nn (nI vj).toNatClampNeg (nI aj).toNatClampNeg) else I) (if pV I m nv (nI vj) ∧ pV I m nv (nI aj) then rwJ J m (nI vj).toNatClampNeg (nI aj).toNatClampNeg (rowL J m nn (nI vj).toNatClampNeg (nI aj).toNatClampNeg) else J) sz) 30 [.ref m, .int (nI vj), .int (nI aj), .int (nI n), .null] [] K N R (rwI I m (lstP (nodL (uR J m nn vj aj) nn) n)) (rwJ J m vj aj (lstP (nodL (uR J m nn vj aj) nn) n)) sz 0 0 := by
        intro T
        induction T with
        | zero =>
          intro n hn
          obtain rfl : n = nn := by omega
          refine x_iload_n dX3_rows_30 rfl ?_
          refine x_aload_n dX3_rows_31 rfl ?_
          refine x_geti dX3_rows_32 fl_X3_59 mw.k rfl ?_
          refine x_icmp_ge 150 dX3_rows_35 (by decide) (fun c35 => ?_) (fun c35 => ?_)
          · refine x_aload_n dX3_rows_150 rfl ?_
            refine x_geti dX3_rows_151 fl_X3_79 mw.k rfl ?_
            exact x_zi dX3_rows_154 ⟨by rw [if_pos hG, clz (show vj < 64 by omega), clz (show aj < 64 by omega), rwI_13]; rfl, rfl, rfl, rfl, by rw [if_pos hG, clz (show vj < 64 by omega), clz (show aj < 64 by omega)]; rfl, by rw [if_pos hG, clz (show vj < 64 by omega), clz (show aj < 64 by omega)]; rfl, rfl⟩
          · exact absurd (by rw [rwI_0, h0]; exact nI_le (by omega) (by omega)) c35
        | succ T ih =>
          intro n hn
          have inner : ∀ (T p : Nat), T + p = nn + 2 → XW l D (fun _ => True) RX3 "rows" cX3_rows 5 2 0 0 K sz (Zx (some (.int (if pV I m nv (nI vj) ∧ pV I m nv (nI aj) then nI (rowL J m nn (nI vj).toNatClampNeg (nI aj).toNatClampNeg).length else -1))) K N R (if pV I m nv (nI vj) ∧ pV I m nv (nI aj) then rwI I m (rowL J m nn (nI vj).toNatClampNeg (nI aj).toNatClampNeg) else I) (if pV I m nv (nI vj) ∧ pV I m nv (nI aj) then rwJ J m (nI vj).toNatClampNeg (nI aj).toNatClampNeg (rowL J m nn (nI vj).toNatClampNeg (nI aj).toNatClampNeg) else J) sz) 41 [.ref m, .int (nI vj), .int (nI aj), .int (nI n), .int (tN (cdp nn p))] [] K N R (rwI I m (preL (uR J m nn vj aj) nn n p)) (rwJ J m vj aj (preL (uR J m nn vj aj) nn n p)) sz 0 0 := by
            intro T
            induction T with
            | zero =>
              intro p hp
              obtain rfl : p = nn + 2 := by omega
              rw [tN_end, preL_end]
              refine x_iload dX3_rows_41 rfl ?_
              refine x_bipush (v := (-3)) dX3_rows_43 (by decide +kernel) ?_
              refine x_icmp_eq 144 dX3_rows_45 (by decide) (fun c45 => ?_) (fun c45 => ?_)
              · refine x_iinc dX3_rows_144 rfl rfl (by decide) rfl ?_
                refine x_goto 30 dX3_rows_147 (by decide) ?_
                refine x_drop 4 ?_
                exact x_eql (by show [_, _, _, Value.int _, _] = _; simp [nI_1]) (ih (n + 1) (by omega))
              · exact absurd (by decide +kernel) c45
            | succ T ihq =>
              intro p hp
              have hlen := preL_len (u := uR J m nn vj aj) hnn (show n < nn by omega) (show p < nn + 2 by omega)
              refine x_iload dX3_rows_41 rfl ?_
              refine x_bipush (v := (-3)) dX3_rows_43 (by decide +kernel) ?_
              refine x_icmp_eq 144 dX3_rows_45 (by decide) (fun c45 => ?_) (fun c45 => ?_)
              · exact absurd c45 (tN_go _ (cdp_lt hnn (by omega)))
              · refine x_aload_n dX3_rows_48 rfl ?_
                refine x_iload_n dX3_rows_49 rfl ?_
                refine x_iload_n dX3_rows_50 rfl ?_
                refine x_iload dX3_rows_51 rfl ?_
                refine x_eV (c_X3_item l D mw (v := vj) (n := n) (c := cdp nn p) (by omega) (by omega) (cdp_lt hnn (by omega))) dX3_rows_53 lk_X3_91 im_X3_item se_X3_item cd_X3_item (by decide) mw.k vcX3 rfl (by decide) rfl (by first | decide | simp [Value.category]) ?_
                rw [rwJ_i]
                refine x_aload_n dX3_rows_56 rfl ?_
                refine x_iload_n dX3_rows_57 rfl ?_
                refine x_iload_n dX3_rows_58 rfl ?_
                refine x_iload dX3_rows_59 rfl ?_
                refine x_eV (c_X3_item l D mw (v := aj) (n := n) (c := cdp nn p) (by omega) (by omega) (cdp_lt hnn (by omega))) dX3_rows_61 lk_X3_91 im_X3_item se_X3_item cd_X3_item (by decide) mw.k vcX3 rfl (by decide) rfl (by first | decide | simp [Value.category]) ?_
                rw [rwJ_i]
                refine x_lcmp dX3_rows_64 ?_
                refine x_if_eq 133 dX3_rows_65 (by decide) (fun c65 => ?_) (fun c65 => ?_)
                · rw [cmp_eq] at c65
                  have hu : uR J m nn vj aj n p = false := by simp [uR, c65]
                  refine x_aload_n dX3_rows_133 rfl ?_
                  refine x_iload dX3_rows_134 rfl ?_
                  refine x_eV (c_X3_following l D mw (n := nn) (p := p) (by first | exact rwI_0.trans h0) (by omega) hnn (by omega)) dX3_rows_136 lk_X3_117 im_X3_following se_X3_following cd_X3_following (by decide) mw.k vcX3 rfl (by decide) rfl (by first | decide | simp [Value.category]) ?_
                  refine x_istore dX3_rows_139 (by decide) rfl ?_
                  refine x_goto 41 dX3_rows_141 (by decide) ?_
                  first
                    | exact x_eqh (by rw [preL_t hu]) (by rw [preL_t hu]) (ihq (p + 1) (by omega))
                    | exact x_eqh (by rw [preL_f hu]) (by rw [preL_f hu]) (ihq (p + 1) (by omega))
                · rw [cmp_eq] at c65
                  have hu : uR J m nn vj aj n p = true := by simp [uR, c65]
                  refine x_aload_n dX3_rows_68 rfl ?_
                  refine x_getq dX3_rows_69 fl_X3_30 mw.k mw.r14 rfl ?_
                  refine x_aload_n dX3_rows_72 rfl ?_
                  refine x_geti dX3_rows_73 fl_X3_79 mw.k rfl ?_
                  refine x_iload_n dX3_rows_76 rfl ?_
                  refine x_iast ((preL (uR J m nn vj aj) nn n p).length) dX3_rows_77 mw.k14 mw.n14 rwI_13 (by omega) (by decide) ?_
                  refine x_aload_n dX3_rows_78 rfl ?_
                  refine x_getq dX3_rows_79 fl_X3_33 mw.k mw.r15 rfl ?_
                  refine x_aload_n dX3_rows_82 rfl ?_
                  refine x_geti dX3_rows_83 fl_X3_79 mw.k rfl ?_
                  refine x_iload dX3_rows_86 rfl ?_
                  refine x_iast ((preL (uR J m nn vj aj) nn n p).length) dX3_rows_88 mw.k15 mw.n15 (by rw [va_up_ne _ _ (show m ≠ m + 7 by omega)]; exact rwI_13) (by omega) (by decide) ?_
                  refine x_aload_n dX3_rows_89 rfl ?_
                  refine x_getq dX3_rows_90 fl_X3_36 mw.k mw.r16 rfl ?_
                  refine x_aload_n dX3_rows_93 rfl ?_
                  refine x_geti dX3_rows_94 fl_X3_79 mw.k rfl ?_
                  refine x_aload_n dX3_rows_97 rfl ?_
                  refine x_iload_n dX3_rows_98 rfl ?_
                  refine x_iload_n dX3_rows_99 rfl ?_
                  refine x_iload dX3_rows_100 rfl ?_
                  refine x_eV (c_X3_item l D mw (v := vj) (n := n) (c := cdp nn p) (by omega) (by omega) (cdp_lt hnn (by omega))) dX3_rows_102 lk_X3_91 im_X3_item se_X3_item cd_X3_item (by decide) mw.k vcX3 rfl (by decide) rfl (by first | decide | simp [Value.category]) ?_
                  rw [rwJ_i]
                  refine x_last ((preL (uR J m nn vj aj) nn n p).length) dX3_rows_105 mw.k16 mw.n16 (by rw [va_up_ne _ _ (show m ≠ m + 8 by omega), va_up_ne _ _ (show m ≠ m + 7 by omega)]; exact rwI_13) (by omega) (by decide) ?_
                  refine x_aload_n dX3_rows_106 rfl ?_
                  refine x_getq dX3_rows_107 fl_X3_39 mw.k mw.r17 rfl ?_
                  refine x_aload_n dX3_rows_110 rfl ?_
                  refine x_geti dX3_rows_111 fl_X3_79 mw.k rfl ?_
                  refine x_aload_n dX3_rows_114 rfl ?_
                  refine x_iload_n dX3_rows_115 rfl ?_
                  refine x_iload_n dX3_rows_116 rfl ?_
                  refine x_iload dX3_rows_117 rfl ?_
                  refine x_eV (c_X3_item l D mw (v := aj) (n := n) (c := cdp nn p) (by omega) (by omega) (cdp_lt hnn (by omega))) dX3_rows_119 lk_X3_91 im_X3_item se_X3_item cd_X3_item (by decide) mw.k vcX3 rfl (by decide) rfl (by first | decide | simp [Value.category]) ?_
                  rw [itm_congr (J := rwJ J m vj aj (preL (uR J m nn vj aj) nn n p)) (by simp [va_up]) (by simp [va_up]), rwJ_i]
                  refine x_last ((preL (uR J m nn vj aj) nn n p).length) dX3_rows_122 mw.k17 mw.n17 (by rw [va_up_ne _ _ (show m ≠ m + 8 by omega), va_up_ne _ _ (show m ≠ m + 7 by omega)]; exact rwI_13) (by omega) (by decide) ?_
                  refine x_aload_n dX3_rows_123 rfl ?_
                  refine x_dup dX3_rows_124 rfl ?_
                  refine x_geti dX3_rows_125 fl_X3_79 mw.k rfl ?_
                  refine x_iconst (v := (1)) dX3_rows_128 (by decide +kernel) ?_
                  refine x_iadd dX3_rows_129 ?_
                  refine x_puti dX3_rows_130 fl_X3_79 mw.k rfl (Or.inl rfl) ?_
                  refine x_eqh (rwI_step (n := n) (c := cdp nn p) (by rw [va_up_ne _ _ (show m + 8 ≠ m + 7 by omega)]) (by rw [va_up_ne _ _ (show m ≠ m + 8 by omega), va_up_ne _ _ (show m ≠ m + 7 by omega), rwI_13])) (rwJ_step (n := n) (c := cdp nn p) (by rw [va_up_ne _ _ (show m + 10 ≠ m + 9 by omega)])) ?_
                  refine x_aload_n dX3_rows_133 rfl ?_
                  refine x_iload dX3_rows_134 rfl ?_
                  refine x_eV (c_X3_following l D mw (n := nn) (p := p) (by first | exact rwI_0.trans h0) (by omega) hnn (by omega)) dX3_rows_136 lk_X3_117 im_X3_following se_X3_following cd_X3_following (by decide) mw.k vcX3 rfl (by decide) rfl (by first | decide | simp [Value.category]) ?_
                  refine x_istore dX3_rows_139 (by decide) rfl ?_
                  refine x_goto 41 dX3_rows_141 (by decide) ?_
                  first
                    | exact x_eqh (by rw [preL_t hu]) (by rw [preL_t hu]) (ihq (p + 1) (by omega))
                    | exact x_eqh (by rw [preL_f hu]) (by rw [preL_f hu]) (ihq (p + 1) (by omega))
          refine x_iload_n dX3_rows_30 rfl ?_
          refine x_aload_n dX3_rows_31 rfl ?_
          refine x_geti dX3_rows_32 fl_X3_59 mw.k rfl ?_
          refine x_icmp_ge 150 dX3_rows_35 (by decide) (fun c35 => ?_) (fun c35 => ?_)
          · rw [rwI_0, h0] at c35; exact absurd c35 (nI_ge (by omega) (by omega))
          · refine x_iconst (v := (0)) dX3_rows_38 (by decide +kernel) ?_
            refine x_istore dX3_rows_39 (by decide) rfl ?_
            exact x_eql (by show [_, _, _, _, Value.int _] = _; rw [cdp_0 (by omega)]) (x_eqh (by rw [preL_0]) (by rw [preL_0]) (inner (nn + 2) 0 rfl))
      refine x_aload_n dX3_rows_18 rfl ?_
      refine x_iconst (v := (1)) dX3_rows_19 (by decide +kernel) ?_
      refine x_puti dX3_rows_20 fl_X3_75 mw.k rfl (Or.inr ⟨rfl, by decide⟩) ?_
      refine x_aload_n dX3_rows_23 rfl ?_
      refine x_iconst (v := (0)) dX3_rows_24 (by decide +kernel) ?_
      refine x_puti dX3_rows_25 fl_X3_79 mw.k rfl (Or.inl rfl) ?_
      refine x_iconst (v := (0)) dX3_rows_28 (by decide +kernel) ?_
      refine x_istore_n dX3_rows_29 (by decide) rfl ?_
      exact x_eqh rwI_nil rwJ_nil.symm (x_eql rfl (outer nn 0 rfl))
    · rw [bI_e0] at c13
      refine x_iconst (v := (-1)) dX3_rows_16 (by decide +kernel) ?_
      exact x_zi dX3_rows_17 ⟨by rw [if_neg (by rintro ⟨z1, z2⟩; first | exact c5 z1 | exact c13 z2)], rfl, rfl, rfl, by rw [if_neg (by rintro ⟨z1, z2⟩; first | exact c5 z1 | exact c13 z2)], by rw [if_neg (by rintro ⟨z1, z2⟩; first | exact c5 z1 | exact c13 z2)], rfl⟩
