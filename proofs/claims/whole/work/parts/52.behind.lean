/-! Both sides behind each call that changes -/
section
variable {x m : Nat} {K N K2 N2 : Nat → Nat} {R R2 : Nat → Nat → Nat} {I I2 Im : Nat → Nat → Int32} {J J2 Jm : Nat → Nat → Int64} {nn s nc nv ce sz sz2 : Nat}
theorem c_X3_clock2 (l : Launch) (D : va_G) {K N : Nat → Nat} {R : Nat → Nat → Nat} {I : Nat → Nat → Int32} {J : Nat → Nat → Int64} {sz : Nat} {m : Nat} (mw : MW m K N R) (t : Int32) : XM l D yX3_clock cX3_clock 3 (some .int) 0 0 0 [.ref m, .int t] K N R I J sz (Zx (some (.int (if t < I m 3 then -1 else I m 3))) K N R (if t < I m 3 then I else va_up I m (va_up (I m) 3 t)) J sz) := by
  have h := c_X3_clock l D (I := I) (J := J) (sz := sz) mw t
  by_cases c : t < I m 3
  · rw [if_pos c] at h; rw [if_pos c, if_pos c]; exact h
  · rw [if_neg c] at h; rw [if_neg c, if_neg c]; exact h
theorem e_clock (h : Cp x R I J m Im Jm nn s nc nv ce) (qt : Int32) : (if qt < I x 12 then -1 else I x 12) = (if qt < Im m 3 then -1 else Im m 3) := by rw [h.1.2.2.1.2.2.2.2]
theorem f_clock (h : Cp x R I J m Im Jm nn s nc nv ce) (cw : CW x K N R) (qt : Int32) : Cp x R (if qt < I x 12 then I else va_up I x (va_up (I x) 12 qt)) J m (if qt < Im m 3 then Im else va_up Im m (va_up (Im m) 3 qt)) Jm nn s nc nv ce := by
  rw [h.1.2.2.1.2.2.2.2]
  by_cases c : qt < I x 12
  · rw [if_pos c, if_pos c]; exact h
  · rw [if_neg c, if_neg c]; exact st_clock h cw qt
theorem cw_if {P : Prop} [Decidable P] {x nv : Nat} {B Cc : Nat → Int64} {Dd : Nat → Int32} {pa c : Int32} (cw : CW x K N R) (hc : if P then ∃ r : Nat, NV x nv r B Cc Dd pa c K N R I J sz K2 N2 R2 I2 J2 sz2 else Sm K N R I J sz K2 N2 R2 I2 J2 sz2) : CW x K2 N2 R2 := by
  by_cases c : P
  · rw [if_pos c] at hc; obtain ⟨r, h⟩ := hc; exact h.cw
  · rw [if_neg c] at hc; obtain ⟨rfl, rfl, rfl, -⟩ := hc; exact cw
theorem n64 : nI 64 = 64 := by decide +kernel
theorem g_iff {qn qs : Int32} : (¬ qn < 1 ∧ ¬ 64 < qn ∧ ¬ qs < 1 ∧ ¬ 64 < qs) ↔ ((¬ qn < 1 ∧ ¬ nI 64 < qn) ∧ (¬ qs < 1 ∧ ¬ nI 64 < qs)) := by
  rw [n64]
  exact ⟨fun ⟨a, b, c, d⟩ => ⟨⟨a, b⟩, c, d⟩, fun ⟨⟨a, b⟩, c, d⟩ => ⟨a, b, c, d⟩⟩
theorem e_graph (qn qs : Int32) : (if ¬ qn < 1 ∧ ¬ 64 < qn ∧ ¬ qs < 1 ∧ ¬ 64 < qs then nI ((qn.toNatClampNeg + qs.toNatClampNeg - 1) / qs.toNatClampNeg) else -1) = (if (¬ qn < 1 ∧ ¬ nI 64 < qn) ∧ (¬ qs < 1 ∧ ¬ nI 64 < qs) then nI (nch qn.toNatClampNeg qs.toNatClampNeg) else -1) := by
  by_cases g : ¬ qn < 1 ∧ ¬ 64 < qn ∧ ¬ qs < 1 ∧ ¬ 64 < qs
  · rw [if_pos g, if_pos (g_iff.mp g)]; rfl
  · rw [if_neg g, if_neg (fun z => g (g_iff.mpr z))]
theorem f_graph (h : Cp x R I J m Im Jm nn s nc nv ce) (cw : CW x K N R) (qn qs : Int32)
    (hz : if ¬ qn < 1 ∧ ¬ 64 < qn ∧ ¬ qs < 1 ∧ ¬ 64 < qs then ∃ (R1 : Nat → Nat → Nat) (I1 : Nat → Nat → Int32) (J1 : Nat → Nat → Int64) (r : Nat) (A Cc : Nat → Int64) (Dd : Nat → Int32), GR x qn.toNatClampNeg qs.toNatClampNeg ((qn.toNatClampNeg + qs.toNatClampNeg - 1) / qs.toNatClampNeg) R I J R1 I1 J1 ∧ NV x 0 r A Cc Dd (-99999999) (nI ((qn.toNatClampNeg + qs.toNatClampNeg - 1) / qs.toNatClampNeg)) K N R1 I1 J1 sz K2 N2 R2 I2 J2 sz2 ∧ (∀ k, k < ((qn.toNatClampNeg + qs.toNatClampNeg - 1) / qs.toNatClampNeg) → Dd k = nI k) ∧ (R (x + 1) 0 = 0 → A = (fun _ => 0) ∧ Cc = (fun _ => 0)) ∧ (R (x + 1) 0 ≠ 0 → A = J (R (x + 1) 0 + 1) ∧ Cc = J (R (x + 1) 0 + 2)) else Sm K N R I J sz K2 N2 R2 I2 J2 sz2) :
    CW x K2 N2 R2 ∧ ∃ nn s nc nv ce, Cp x R2 I2 J2 m (if (¬ qn < 1 ∧ ¬ nI 64 < qn) ∧ (¬ qs < 1 ∧ ¬ nI 64 < qs) then grI Im m qn.toNatClampNeg qs.toNatClampNeg else Im) (if (¬ qn < 1 ∧ ¬ nI 64 < qn) ∧ (¬ qs < 1 ∧ ¬ nI 64 < qs) then glJ Jm m 64 else Jm) nn s nc nv ce := by
  by_cases g : ¬ qn < 1 ∧ ¬ 64 < qn ∧ ¬ qs < 1 ∧ ¬ 64 < qs
  · have g2 := g_iff.mp g
    rw [if_pos g] at hz
    rw [if_pos g2, if_pos g2]
    obtain ⟨R1, I1, J1, r, A, Cc, Dd, z1, z2, z3, z4, z5⟩ := hz
    obtain ⟨a, a1, a2, rfl⟩ := in64 g2.1
    obtain ⟨b, b1, b2, rfl⟩ := in64 g2.2
    rw [nI_clamp (n := a) (by omega), nI_clamp (n := b) (by omega)] at z1 z2 z3
    rw [nI_clamp (n := a) (by omega), nI_clamp (n := b) (by omega)]
    exact ⟨z2.cw, a, b, nch a b, 1, nch a b, st_graph h cw a1 a2 b1 b2 z1 z2 z3 z4 z5⟩
  · rw [if_neg g] at hz
    rw [if_neg (fun z => g (g_iff.mpr z)), if_neg (fun z => g (g_iff.mpr z))]
    obtain ⟨rfl, rfl, rfl, rfl, rfl, -⟩ := hz
    exact ⟨cw, nn, s, nc, nv, ce, h⟩
theorem f_rows (h : Cp x R I J m Im Jm nn s nc nv ce) (cw : CW x K N R) (qv qa : Int32) :
    CW x K N (if pL R I x nv qv ∧ pL R I x nv qa then va_up R x (va_up (va_up (R x) 3 (R (x + 1) qv.toNatClampNeg)) 4 (R (x + 1) qa.toNatClampNeg)) else R) ∧
    Cp x (if pL R I x nv qv ∧ pL R I x nv qa then va_up R x (va_up (va_up (R x) 3 (R (x + 1) qv.toNatClampNeg)) 4 (R (x + 1) qa.toNatClampNeg)) else R) (if pL R I x nv qv ∧ pL R I x nv qa then rsI I (x + 2) (fL (rA J (R (x + 1) qv.toNatClampNeg) (R (x + 1) qa.toNatClampNeg)) (rC J (R (x + 1) qv.toNatClampNeg) (R (x + 1) qa.toNatClampNeg)) nn).length else I) (if pL R I x nv qv ∧ pL R I x nv qa then rsJ J (x + 2) nn (rA J (R (x + 1) qv.toNatClampNeg) (R (x + 1) qa.toNatClampNeg)) (rC J (R (x + 1) qv.toNatClampNeg) (R (x + 1) qa.toNatClampNeg)) else J) m (if pV Im m nv qv ∧ pV Im m nv qa then rwI Im m (rowL Jm m nn qv.toNatClampNeg qa.toNatClampNeg) else Im) (if pV Im m nv qv ∧ pV Im m nv qa then rwJ Jm m qv.toNatClampNeg qa.toNatClampNeg (rowL Jm m nn qv.toNatClampNeg qa.toNatClampNeg) else Jm) nn s nc nv ce := by
  by_cases g : pV Im m nv qv ∧ pV Im m nv qa
  · have g2 : pL R I x nv qv ∧ pL R I x nv qa := ⟨(h.pl qv).mpr g.1, (h.pl qa).mpr g.2⟩
    rw [if_pos g2, if_pos g2, if_pos g2, if_pos g, if_pos g]
    refine ⟨?_, st_rows h cw g.1.1.2 g.2.1.2 (by rw [h.rowset (A := rA J (R (x + 1) qv.toNatClampNeg) (R (x + 1) qa.toNatClampNeg)) g.1.1.2 g.2.1.2 (fun n hn => ⟨rfl, rfl⟩), List.length_map])⟩
    have c1 := CW.putc (k := 3) (q := R (x + 1) qv.toNatClampNeg) cw (by omega)
    have c2 := CW.putc (k := 4) (q := R (x + 1) qa.toNatClampNeg) c1 (by omega)
    rw [va_up_self, va_up_up] at c2
    exact c2
  · have g2 : ¬ (pL R I x nv qv ∧ pL R I x nv qa) := fun z => g ⟨(h.pl qv).mp z.1, (h.pl qa).mp z.2⟩
    rw [if_neg g2, if_neg g2, if_neg g2, if_neg g, if_neg g]
    exact ⟨cw, h⟩
theorem e_letGo2 (h : Cp x R I J m Im Jm nn s nc nv ce) (cw : CW x K N R) (qv : Int32) : (if pL R I x nv qv ∧ ¬ qv = 0 then nI (cntP (fun k => !lgH R I x nv (R (x + 1) qv.toNatClampNeg) k) nc) else -1) = (if pV Im m nv qv ∧ ¬ qv = 0 then nI (cntP (fun i => !hldB Im m nv qv.toNatClampNeg i) nc) else -1) := by
  by_cases g : pV Im m nv qv ∧ ¬ qv = 0
  · rw [if_pos ⟨(h.pl qv).mpr g.1, g.2⟩, if_pos g, e_letGo h cw g.1.1.2]
  · rw [if_neg (fun z => g ⟨(h.pl qv).mp z.1, z.2⟩), if_neg g]
theorem f_letGo (h : Cp x R I J m Im Jm nn s nc nv ce) (cw : CW x K N R) (qv : Int32) : Cp x R (if pL R I x nv qv ∧ ¬ qv = 0 then va_up (lgI I x (R (x + 1) qv.toNatClampNeg)) x (va_up (lgI I x (R (x + 1) qv.toNatClampNeg) x) 11 (I x 11 + nI (cntP (fun k => !lgH R I x nv (R (x + 1) qv.toNatClampNeg) k) nc))) else I) J m (if pV Im m nv qv ∧ ¬ qv = 0 then va_up Im (m + 6) (va_up (Im (m + 6)) qv.toNatClampNeg 1) else Im) Jm nn s nc nv ce := by
  by_cases g : pV Im m nv qv ∧ ¬ qv = 0
  · rw [if_pos ⟨(h.pl qv).mpr g.1, g.2⟩, if_pos g]
    exact st_letGo h cw g.1.1.2 g.1.2 (e_letGo h cw g.1.1.2)
  · rw [if_neg (fun z => g ⟨(h.pl qv).mp z.1, z.2⟩), if_neg g]
    exact h
theorem f_reach (h : Cp x R I J m Im Jm nn s nc nv ce) (cw : CW x K N R) {P : Prop} [Decidable P] (F : Nat → Int32) : Cp x R I J m (if P then va_up Im (m + 13) F else Im) Jm nn s nc nv ce := by
  refine h.ext cw (fun q _ => ⟨rfl, rfl, rfl⟩) (fun q hq => ⟨?_, rfl⟩)
  by_cases c : P
  · rw [if_pos c, va_up_ne _ _ (by omega)]
  · rw [if_neg c]
theorem e_turn (h : Cp x R I J m Im Jm nn s nc nv ce) {ca cb : Nat} (ha : ca < nv) (hb : cb < nv) (h12 : Im m 12 = 1) (g6 : ∀ (i : Nat) (q : Nat × Nat), (rowL Jm m nn ca cb)[i]? = some q → Im (m + 7) i = nI q.1 ∧ Im (m + 8) i = tN q.2 ∧ Jm (m + 9) i = itm Jm m ca q.1 q.2 ∧ Jm (m + 10) i = itm Jm m cb q.1 q.2) (qv : Int32) :
    (if pL R I x nv qv then (if anyP (ctB J (R (x + 1) qv.toNatClampNeg) (R (x + 1) ca) (R (x + 1) cb)) (nn * 2) = false then chA nv else -2) else -1) = (if pV Im m nv qv then (if (Im m 12 = 1 ∧ anyP (fun k => !okR Jm m qv.toNatClampNeg (rN (rowL Jm m nn ca cb)) (rK (rowL Jm m nn ca cb)) k) (rowL Jm m nn ca cb).length = false) then chA nv else -2) else -1) := by
  by_cases g : pV Im m nv qv
  · rw [if_pos ((h.pl qv).mpr g), if_pos g, e_okR h g.1.2 ha hb g6]
    by_cases z : anyP (fun k => !okR Jm m qv.toNatClampNeg (rN (rowL Jm m nn ca cb)) (rK (rowL Jm m nn ca cb)) k) (rowL Jm m nn ca cb).length = false
    · rw [if_pos z, if_pos ⟨h12, z⟩]
    · rw [if_neg z, if_neg (fun y => z y.2)]
  · rw [if_neg (fun z => g ((h.pl qv).mp z)), if_neg g]
theorem f_turn (h : Cp x R I J m Im Jm nn s nc nv ce) (cw : CW x K N R) {ca cb sm : Nat} (hsm : 0 < nv → sm = s) (ha : ca < nv) (hb : cb < nv) (h12 : Im m 12 = 1) (g6 : ∀ (i : Nat) (q : Nat × Nat), (rowL Jm m nn ca cb)[i]? = some q → Im (m + 7) i = nI q.1 ∧ Im (m + 8) i = tN q.2 ∧ Jm (m + 9) i = itm Jm m ca q.1 q.2 ∧ Jm (m + 10) i = itm Jm m cb q.1 q.2)
    (g7 : ∀ n, n < nn → J (x + 3) n = J (R (x + 1) ca + 1) n ^^^ J (R (x + 1) cb + 1) n ∧ J (x + 4) n = rC J (R (x + 1) ca) (R (x + 1) cb) n) (qv : Int32)
    (hz : if pL R I x nv qv ∧ anyP (ctB J (R (x + 1) qv.toNatClampNeg) (R (x + 1) ca) (R (x + 1) cb)) (nn * 2) = false ∧ nv < 60 then ∃ r : Nat, NV x nv r (tiA (J (R (x + 1) qv.toNatClampNeg + 1)) (J (x + 2 + 1)) (J (R (x + 1) cb + 1)) nn) (tiC (J (R (x + 1) qv.toNatClampNeg + 2)) (J (x + 2 + 2)) (J (R (x + 1) cb + 2)) (nn * 2)) (tnD (I (R (x + 1) qv.toNatClampNeg + 3)) (I x 10) (neK (tiA (J (R (x + 1) qv.toNatClampNeg + 1)) (J (x + 2 + 1)) (J (R (x + 1) cb + 1)) nn) (tiC (J (R (x + 1) qv.toNatClampNeg + 2)) (J (x + 2 + 2)) (J (R (x + 1) cb + 2)) (nn * 2)) (J (R (x + 1) qv.toNatClampNeg + 1)) (J (R (x + 1) qv.toNatClampNeg + 2)) s nn) nc) (I (R (x + 1) qv.toNatClampNeg) 0) (I x 10 + nI (cntP (neK (tiA (J (R (x + 1) qv.toNatClampNeg + 1)) (J (x + 2 + 1)) (J (R (x + 1) cb + 1)) nn) (tiC (J (R (x + 1) qv.toNatClampNeg + 2)) (J (x + 2 + 2)) (J (R (x + 1) cb + 2)) (nn * 2)) (J (R (x + 1) qv.toNatClampNeg + 1)) (J (R (x + 1) qv.toNatClampNeg + 2)) s nn) nc)) K N R I J sz K2 N2 R2 I2 J2 sz2 else Sm K N R I J sz K2 N2 R2 I2 J2 sz2) :
    CW x K2 N2 R2 ∧ ∃ nv2 ce2, Cp x R2 I2 J2 m (if pV Im m nv qv ∧ (Im m 12 = 1 ∧ anyP (fun k => !okR Jm m qv.toNatClampNeg (rN (rowL Jm m nn ca cb)) (rK (rowL Jm m nn ca cb)) k) (rowL Jm m nn ca cb).length = false) ∧ ¬ nv = 60 then mdI (tnI Im Jm m qv.toNatClampNeg nv sm (rN (rowL Jm m nn ca cb)) (rK (rowL Jm m nn ca cb)) (rowL Jm m nn ca cb).length) m else Im) (if pV Im m nv qv ∧ (Im m 12 = 1 ∧ anyP (fun k => !okR Jm m qv.toNatClampNeg (rN (rowL Jm m nn ca cb)) (rK (rowL Jm m nn ca cb)) k) (rowL Jm m nn ca cb).length = false) ∧ ¬ nv = 60 then tnJ Jm m qv.toNatClampNeg nv (rN (rowL Jm m nn ca cb)) (rK (rowL Jm m nn ca cb)) (rowL Jm m nn ca cb).length else Jm) nn s nc nv2 ce2 := by
  have hnv := h.nvle
  by_cases g : pV Im m nv qv ∧ (Im m 12 = 1 ∧ anyP (fun k => !okR Jm m qv.toNatClampNeg (rN (rowL Jm m nn ca cb)) (rK (rowL Jm m nn ca cb)) k) (rowL Jm m nn ca cb).length = false) ∧ ¬ nv = 60
  · obtain ⟨g1, g2, g3⟩ := g
    rw [if_pos ⟨(h.pl qv).mpr g1, by rw [e_okR h g1.1.2 ha hb g6]; exact g2.2, by omega⟩] at hz
    rw [if_pos ⟨g1, g2, g3⟩, if_pos ⟨g1, g2, g3⟩]
    obtain ⟨r, hz⟩ := hz
    have h1 := g1.1.2
    rw [hsm (by omega)]
    obtain ⟨ce2, q⟩ := st_turn h cw h1 g1.2 ha hb g6 g7 rfl rfl hz
    exact ⟨hz.cw, nv + 1, ce2, q⟩
  · rw [if_neg (fun z => g ⟨(h.pl qv).mp z.1, ⟨h12, by rw [← e_okR h z.1.1.2 ha hb g6]; exact z.2.1⟩, by omega⟩)] at hz
    rw [if_neg g, if_neg g]
    obtain ⟨rfl, rfl, rfl, rfl, rfl, -⟩ := hz
    exact ⟨cw, nv, ce, h⟩
theorem e_join (h : Cp x R I J m Im Jm nn s nc nv ce) (qo qa qb : Int32) : (if pL R I x nv qo ∧ pL R I x nv qa ∧ pL R I x nv qb then (if anyP (cfB J (R (x + 1) qo.toNatClampNeg) (R (x + 1) qa.toNatClampNeg) (R (x + 1) qb.toNatClampNeg)) (nn * 2) = true then -10 - nI (fL (fun _ => (0 : Int64)) (tcC J (R (x + 1) qo.toNatClampNeg) (R (x + 1) qa.toNatClampNeg) (R (x + 1) qb.toNatClampNeg)) nn).length else chA nv) else -1) = (if pV Im m nv qo ∧ pV Im m nv qa ∧ pV Im m nv qb then (if cfL Jm m nn qo.toNatClampNeg qa.toNatClampNeg qb.toNatClampNeg = [] then chA nv else -10 - nI (cfL Jm m nn qo.toNatClampNeg qa.toNatClampNeg qb.toNatClampNeg).length) else -1) := by
  by_cases g : pV Im m nv qo ∧ pV Im m nv qa ∧ pV Im m nv qb
  · rw [if_pos ⟨(h.pl qo).mpr g.1, (h.pl qa).mpr g.2.1, (h.pl qb).mpr g.2.2⟩, if_pos g]
    have e := e_cf h g.1.1.2 g.2.1.1.2 g.2.2.1.2
    by_cases z : cfL Jm m nn qo.toNatClampNeg qa.toNatClampNeg qb.toNatClampNeg = []
    · rw [if_pos z, if_neg (fun y => e.mp y z)]
    · rw [if_neg z, if_pos (e.mpr z), h.cfset g.1.1.2 g.2.1.1.2 g.2.2.1.2, List.length_map]
  · rw [if_neg (fun z => g ⟨(h.pl qo).mp z.1, (h.pl qa).mp z.2.1, (h.pl qb).mp z.2.2⟩), if_neg g]
theorem f_join (h : Cp x R I J m Im Jm nn s nc nv ce) (cw : CW x K N R) {sm : Nat} (hsm : 0 < nv → sm = s) (qo qa qb : Int32) {A Cc : Nat → Int64} (hA : A = jiA (J (R (x + 1) qa.toNatClampNeg + 1)) (J (R (x + 1) qo.toNatClampNeg + 1)) (J (R (x + 1) qb.toNatClampNeg + 1)) nn) (hC : Cc = jiC (J (R (x + 1) qa.toNatClampNeg + 2)) (J (R (x + 1) qo.toNatClampNeg + 2)) (J (R (x + 1) qb.toNatClampNeg + 2)) (nn * 2)) {fr : Nat → Bool}
    (hfr : fr = fun j => cjF (I (R (x + 1) qo.toNatClampNeg + 3) j) (I (R (x + 1) qa.toNatClampNeg + 3) j) (I (R (x + 1) qb.toNatClampNeg + 3) j) (!neK A Cc (J (R (x + 1) qa.toNatClampNeg + 1)) (J (R (x + 1) qa.toNatClampNeg + 2)) s nn j) (!neK A Cc (J (R (x + 1) qb.toNatClampNeg + 1)) (J (R (x + 1) qb.toNatClampNeg + 2)) s nn j))
    (hz : if (pL R I x nv qo ∧ pL R I x nv qa ∧ pL R I x nv qb) ∧ anyP (cfB J (R (x + 1) qo.toNatClampNeg) (R (x + 1) qa.toNatClampNeg) (R (x + 1) qb.toNatClampNeg)) (nn * 2) = true then Sm K N R (rsI I (x + 5) (fL (fun _ => (0 : Int64)) (tcC J (R (x + 1) qo.toNatClampNeg) (R (x + 1) qa.toNatClampNeg) (R (x + 1) qb.toNatClampNeg)) nn).length) (tcJ J (x + 5) nn (tcC J (R (x + 1) qo.toNatClampNeg) (R (x + 1) qa.toNatClampNeg) (R (x + 1) qb.toNatClampNeg))) sz K2 N2 R2 I2 J2 sz2 else if (pL R I x nv qo ∧ pL R I x nv qa ∧ pL R I x nv qb) ∧ nv < 60 then ∃ r : Nat, NV x nv r A Cc (jnD (I (R (x + 1) qo.toNatClampNeg + 3)) (I (R (x + 1) qa.toNatClampNeg + 3)) (I (R (x + 1) qb.toNatClampNeg + 3)) (I x 10) (fun j => !neK A Cc (J (R (x + 1) qa.toNatClampNeg + 1)) (J (R (x + 1) qa.toNatClampNeg + 2)) s nn j) (fun j => !neK A Cc (J (R (x + 1) qb.toNatClampNeg + 1)) (J (R (x + 1) qb.toNatClampNeg + 2)) s nn j) fr nc) (I (R (x + 1) qa.toNatClampNeg) 0) (I x 10 + nI (cntP fr nc)) K N R I J sz K2 N2 R2 I2 J2 sz2 else Sm K N R I J sz K2 N2 R2 I2 J2 sz2) :
    CW x K2 N2 R2 ∧ ∃ nv2 ce2, Cp x R2 I2 J2 m (if pV Im m nv qo ∧ pV Im m nv qa ∧ pV Im m nv qb then (if cfL Jm m nn qo.toNatClampNeg qa.toNatClampNeg qb.toNatClampNeg = [] then (if nv = 60 then Im else mdI (jC Im (jJ Jm m nn qo.toNatClampNeg qa.toNatClampNeg qb.toNatClampNeg nv nn) m nn sm qo.toNatClampNeg qa.toNatClampNeg qb.toNatClampNeg nv nc) m) else va_up (cfI Im m (cfL Jm m nn qo.toNatClampNeg qa.toNatClampNeg qb.toNatClampNeg)) m (va_up (Im m) 18 (nI (cfL Jm m nn qo.toNatClampNeg qa.toNatClampNeg qb.toNatClampNeg).length))) else Im) (if pV Im m nv qo ∧ pV Im m nv qa ∧ pV Im m nv qb then (if cfL Jm m nn qo.toNatClampNeg qa.toNatClampNeg qb.toNatClampNeg = [] then (if nv = 60 then Jm else jJ Jm m nn qo.toNatClampNeg qa.toNatClampNeg qb.toNatClampNeg nv nn) else Jm) else Jm) nn s nc nv2 ce2 := by
  have hnv := h.nvle
  by_cases g : pV Im m nv qo ∧ pV Im m nv qa ∧ pV Im m nv qb
  · have g2 : pL R I x nv qo ∧ pL R I x nv qa ∧ pL R I x nv qb := ⟨(h.pl qo).mpr g.1, (h.pl qa).mpr g.2.1, (h.pl qb).mpr g.2.2⟩
    have e := e_cf h g.1.1.2 g.2.1.1.2 g.2.2.1.2
    rw [if_pos g, if_pos g]
    by_cases z : cfL Jm m nn qo.toNatClampNeg qa.toNatClampNeg qb.toNatClampNeg = []
    · rw [if_pos z, if_pos z]
      rw [if_neg (fun y => e.mp y.2 z)] at hz
      by_cases n60 : nv = 60
      · rw [if_pos n60, if_pos n60]
        rw [if_neg (fun y => by omega)] at hz
        obtain ⟨rfl, rfl, rfl, rfl, rfl, -⟩ := hz
        exact ⟨cw, nv, ce, h⟩
      · rw [if_neg n60, if_neg n60]
        rw [if_pos ⟨g2, by omega⟩] at hz
        obtain ⟨r, hz⟩ := hz
        have h1 := g.1.1.2
        rw [hsm (by omega)]
        obtain ⟨ce2, q⟩ := st_join h cw g.1.1.2 g.2.1.1.2 g.2.2.1.2 g.1.2 g.2.1.2 g.2.2.2 hA hC hfr hz
        exact ⟨hz.cw, nv + 1, ce2, q⟩
    · rw [if_neg z, if_neg z]
      rw [if_pos ⟨g2, e.mpr z⟩] at hz
      obtain ⟨rfl, rfl, rfl, rfl, rfl, -⟩ := hz
      refine ⟨cw, nv, ce, st_told h cw g.1.1.2 g.2.1.1.2 g.2.2.1.2 ?_⟩
      rw [h.cfset g.1.1.2 g.2.1.1.2 g.2.2.1.2, List.length_map]
  · have g2 : ¬ (pL R I x nv qo ∧ pL R I x nv qa ∧ pL R I x nv qb) := fun z => g ⟨(h.pl qo).mp z.1, (h.pl qa).mp z.2.1, (h.pl qb).mp z.2.2⟩
    rw [if_neg g, if_neg g]
    rw [if_neg (fun y => g2 y.1), if_neg (fun y => g2 y.1)] at hz
    obtain ⟨rfl, rfl, rfl, rfl, rfl, -⟩ := hz
    exact ⟨cw, nv, ce, h⟩
end
